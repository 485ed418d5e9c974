set_option maxRecDepth 100000 in
theorem nm_X0_init : NM kX0_init 0 := ⟨(gt_in (i := 98) rfl rfl), (gt_in (i := 3) (by decide +kernel) rfl), ⟨by decide, by decide, by decide +kernel⟩, by decide⟩
theorem mf_X0_init : MFi kX0_init 0 := ⟨nm_X0_init, (gt_in (i := 97) (by decide +kernel) rfl), rfl, rfl⟩
set_option maxRecDepth 100000 in
theorem nm_X0_kindOf : NM kX0_kindOf 1 := ⟨(gt_in (i := 553) rfl rfl), (gt_in (i := 3) (by decide +kernel) rfl), ⟨by decide, by decide, by decide +kernel⟩, by decide⟩
theorem mu_X0_kindOf : MFu kX0_kindOf 1 := ⟨nm_X0_kindOf, (gt_in (i := 551) (by decide +kernel) rfl), by decide⟩
theorem mf_X0_kindOf : MFv kX0_kindOf 1 := ⟨nm_X0_kindOf, (gt_in (i := 551) (by decide +kernel) rfl), (gt_in (i := 552) (by decide +kernel) rfl)⟩
set_option maxRecDepth 100000 in
theorem nm_X0_start : NM kX0_start 2 := ⟨(gt_in (i := 510) rfl rfl), (gt_in (i := 3) (by decide +kernel) rfl), ⟨by decide, by decide, by decide +kernel⟩, by decide⟩
theorem mu_X0_start : MFu kX0_start 2 := ⟨nm_X0_start, (gt_in (i := 508) (by decide +kernel) rfl), by decide⟩
theorem mf_X0_start : MFv kX0_start 2 := ⟨nm_X0_start, (gt_in (i := 508) (by decide +kernel) rfl), (gt_in (i := 509) (by decide +kernel) rfl)⟩
set_option maxRecDepth 100000 in
theorem nm_X0_step : NM kX0_step 0 := ⟨(gt_in (i := 598) rfl rfl), (gt_in (i := 3) (by decide +kernel) rfl), ⟨by decide, by decide, by decide +kernel⟩, by decide⟩
theorem mu_X0_step : MFu kX0_step 0 := ⟨nm_X0_step, (gt_in (i := 596) (by decide +kernel) rfl), by decide⟩
theorem mf_X0_step : MFv kX0_step 0 := ⟨nm_X0_step, (gt_in (i := 596) (by decide +kernel) rfl), (gt_in (i := 597) (by decide +kernel) rfl)⟩
set_option maxRecDepth 100000 in
theorem nm_X0_bakeOne : NM kX0_bakeOne 1 := ⟨(gt_in (i := 602) rfl rfl), (gt_in (i := 3) (by decide +kernel) rfl), ⟨by decide, by decide, by decide +kernel⟩, by decide⟩
theorem mu_X0_bakeOne : MFu kX0_bakeOne 1 := ⟨nm_X0_bakeOne, (gt_in (i := 601) (by decide +kernel) rfl), by decide⟩
theorem mf_X0_bakeOne : MFv kX0_bakeOne 1 := ⟨nm_X0_bakeOne, (gt_in (i := 601) (by decide +kernel) rfl), (gt_sel (q := (⟨"HotCorner$Baking", "bakeOne", "(I)V"⟩, 9)) (i := 26) (by decide +kernel))⟩
set_option maxRecDepth 100000 in
theorem nm_X0_name : NM kX0_name 5 := ⟨(gt_in (i := 514) rfl rfl), (gt_in (i := 3) (by decide +kernel) rfl), ⟨by decide, by decide, by decide +kernel⟩, by decide⟩
theorem mu_X0_name : MFu kX0_name 5 := ⟨nm_X0_name, (gt_in (i := 512) (by decide +kernel) rfl), by decide⟩
theorem mf_X0_name : MFv kX0_name 5 := ⟨nm_X0_name, (gt_in (i := 512) (by decide +kernel) rfl), (gt_in (i := 513) (by decide +kernel) rfl)⟩
set_option maxRecDepth 100000 in
theorem nm_X0_ask : NM kX0_ask 1 := ⟨(gt_in (i := 518) rfl rfl), (gt_in (i := 3) (by decide +kernel) rfl), ⟨by decide, by decide, by decide +kernel⟩, by decide⟩
theorem mu_X0_ask : MFu kX0_ask 1 := ⟨nm_X0_ask, (gt_in (i := 516) (by decide +kernel) rfl), by decide⟩
theorem mf_X0_ask : MFv kX0_ask 1 := ⟨nm_X0_ask, (gt_in (i := 516) (by decide +kernel) rfl), (gt_in (i := 517) (by decide +kernel) rfl)⟩
set_option maxRecDepth 100000 in
theorem nm_X0_away : NM kX0_away 1 := ⟨(gt_in (i := 648) rfl rfl), (gt_in (i := 3) (by decide +kernel) rfl), ⟨by decide, by decide, by decide +kernel⟩, by decide⟩
theorem mu_X0_away : MFu kX0_away 1 := ⟨nm_X0_away, (gt_in (i := 646) (by decide +kernel) rfl), by decide⟩
theorem mf_X0_away : MFv kX0_away 1 := ⟨nm_X0_away, (gt_in (i := 646) (by decide +kernel) rfl), (gt_in (i := 647) (by decide +kernel) rfl)⟩
set_option maxRecDepth 100000 in
theorem nm_X0_badnessOf : NM kX0_badnessOf 1 := ⟨(gt_in (i := 644) rfl rfl), (gt_in (i := 3) (by decide +kernel) rfl), ⟨by decide, by decide, by decide +kernel⟩, by decide⟩
theorem mu_X0_badnessOf : MFu kX0_badnessOf 1 := ⟨nm_X0_badnessOf, (gt_in (i := 642) (by decide +kernel) rfl), by decide⟩
theorem mf_X0_badnessOf : MFv kX0_badnessOf 1 := ⟨nm_X0_badnessOf, (gt_in (i := 642) (by decide +kernel) rfl), (gt_in (i := 643) (by decide +kernel) rfl)⟩
set_option maxRecDepth 100000 in
theorem nm_X0_cakes : NM kX0_cakes 0 := ⟨(gt_in (i := 640) rfl rfl), (gt_in (i := 3) (by decide +kernel) rfl), ⟨by decide, by decide, by decide +kernel⟩, by decide⟩
theorem mu_X0_cakes : MFu kX0_cakes 0 := ⟨nm_X0_cakes, (gt_in (i := 639) (by decide +kernel) rfl), by decide⟩
theorem mf_X0_cakes : MFv kX0_cakes 0 := ⟨nm_X0_cakes, (gt_in (i := 639) (by decide +kernel) rfl), (gt_sel (q := (⟨"HotCorner$Baking", "cakes", "()I"⟩, 9)) (i := 27) (by decide +kernel))⟩
set_option maxRecDepth 100000 in
theorem nm_X0_badness : NM kX0_badness 0 := ⟨(gt_in (i := 636) rfl rfl), (gt_in (i := 3) (by decide +kernel) rfl), ⟨by decide, by decide, by decide +kernel⟩, by decide⟩
theorem mu_X0_badness : MFu kX0_badness 0 := ⟨nm_X0_badness, (gt_in (i := 634) (by decide +kernel) rfl), by decide⟩
theorem mf_X0_badness : MFv kX0_badness 0 := ⟨nm_X0_badness, (gt_in (i := 634) (by decide +kernel) rfl), (gt_in (i := 635) (by decide +kernel) rfl)⟩
set_option maxRecDepth 100000 in
theorem nm_X0_brownest : NM kX0_brownest 0 := ⟨(gt_in (i := 674) rfl rfl), (gt_in (i := 3) (by decide +kernel) rfl), ⟨by decide, by decide, by decide +kernel⟩, by decide⟩
theorem mu_X0_brownest : MFu kX0_brownest 0 := ⟨nm_X0_brownest, (gt_in (i := 672) (by decide +kernel) rfl), by decide⟩
theorem mf_X0_brownest : MFv kX0_brownest 0 := ⟨nm_X0_brownest, (gt_in (i := 672) (by decide +kernel) rfl), (gt_in (i := 673) (by decide +kernel) rfl)⟩
set_option maxRecDepth 100000 in
theorem nm_X0_palest : NM kX0_palest 0 := ⟨(gt_in (i := 678) rfl rfl), (gt_in (i := 3) (by decide +kernel) rfl), ⟨by decide, by decide, by decide +kernel⟩, by decide⟩
theorem mu_X0_palest : MFu kX0_palest 0 := ⟨nm_X0_palest, (gt_in (i := 676) (by decide +kernel) rfl), by decide⟩
theorem mf_X0_palest : MFv kX0_palest 0 := ⟨nm_X0_palest, (gt_in (i := 676) (by decide +kernel) rfl), (gt_in (i := 677) (by decide +kernel) rfl)⟩
set_option maxRecDepth 100000 in
theorem nm_X0_apart : NM kX0_apart 0 := ⟨(gt_in (i := 670) rfl rfl), (gt_in (i := 3) (by decide +kernel) rfl), ⟨by decide, by decide, by decide +kernel⟩, by decide⟩
theorem mu_X0_apart : MFu kX0_apart 0 := ⟨nm_X0_apart, (gt_in (i := 668) (by decide +kernel) rfl), by decide⟩
theorem mf_X0_apart : MFv kX0_apart 0 := ⟨nm_X0_apart, (gt_in (i := 668) (by decide +kernel) rfl), (gt_in (i := 669) (by decide +kernel) rfl)⟩
set_option maxRecDepth 100000 in
theorem nm_X0_right : NM kX0_right 0 := ⟨(gt_in (i := 684) rfl rfl), (gt_in (i := 3) (by decide +kernel) rfl), ⟨by decide, by decide, by decide +kernel⟩, by decide⟩
theorem mu_X0_right : MFu kX0_right 0 := ⟨nm_X0_right, (gt_in (i := 682) (by decide +kernel) rfl), by decide⟩
theorem mf_X0_right : MFv kX0_right 0 := ⟨nm_X0_right, (gt_in (i := 682) (by decide +kernel) rfl), (gt_in (i := 683) (by decide +kernel) rfl)⟩
set_option maxRecDepth 100000 in
theorem nm_X1_init : NM kX1_init 0 := ⟨(gt_in (i := 126) rfl rfl), (gt_in (i := 7) (by decide +kernel) rfl), ⟨by decide, by decide, by decide +kernel⟩, by decide⟩
theorem mf_X1_init : MFi kX1_init 0 := ⟨nm_X1_init, (gt_in (i := 125) (by decide +kernel) rfl), rfl, rfl⟩
set_option maxRecDepth 100000 in
theorem nm_X1_begins : NM kX1_begins 1 := ⟨(gt_in (i := 561) rfl rfl), (gt_in (i := 7) (by decide +kernel) rfl), ⟨by decide, by decide, by decide +kernel⟩, by decide⟩
theorem mu_X1_begins : MFu kX1_begins 1 := ⟨nm_X1_begins, (gt_in (i := 560) (by decide +kernel) rfl), by decide⟩
set_option maxRecDepth 100000 in
theorem nm_X2_init : NM kX2_init 0 := ⟨(gt_in (i := 140) rfl rfl), (gt_in (i := 9) (by decide +kernel) rfl), ⟨by decide, by decide, by decide +kernel⟩, by decide⟩
theorem mf_X2_init : MFi kX2_init 0 := ⟨nm_X2_init, (gt_in (i := 139) (by decide +kernel) rfl), rfl, rfl⟩
set_option maxRecDepth 100000 in
theorem nm_X2_away : NM kX2_away 2 := ⟨(gt_in (i := 656) rfl rfl), (gt_in (i := 9) (by decide +kernel) rfl), ⟨by decide, by decide, by decide +kernel⟩, by decide⟩
theorem mu_X2_away : MFu kX2_away 2 := ⟨nm_X2_away, (gt_in (i := 655) (by decide +kernel) rfl), by decide⟩
set_option maxRecDepth 100000 in
theorem nm_X3_init : NM kX3_init 0 := ⟨(gt_in (i := 105) rfl rfl), (gt_in (i := 4) (by decide +kernel) rfl), ⟨by decide, by decide, by decide +kernel⟩, by decide⟩
theorem mf_X3_init : MFi kX3_init 0 := ⟨nm_X3_init, (gt_in (i := 104) (by decide +kernel) rfl), rfl, rfl⟩
set_option maxRecDepth 100000 in
theorem nm_X3_gains : NM kX3_gains 3 := ⟨(gt_in (i := 627) rfl rfl), (gt_in (i := 4) (by decide +kernel) rfl), ⟨by decide, by decide, by decide +kernel⟩, by decide⟩
theorem mu_X3_gains : MFu kX3_gains 3 := ⟨nm_X3_gains, (gt_in (i := 610) (by decide +kernel) rfl), by decide⟩
theorem mf_X3_gains : MFv kX3_gains 3 := ⟨nm_X3_gains, (gt_in (i := 610) (by decide +kernel) rfl), (gt_in (i := 611) (by decide +kernel) rfl)⟩
set_option maxRecDepth 100000 in
theorem nm_X3_begins : NM kX3_begins 1 := ⟨(gt_in (i := 570) rfl rfl), (gt_in (i := 4) (by decide +kernel) rfl), ⟨by decide, by decide, by decide +kernel⟩, by decide⟩
theorem mu_X3_begins : MFu kX3_begins 1 := ⟨nm_X3_begins, (gt_in (i := 556) (by decide +kernel) rfl), by decide⟩
theorem mf_X3_begins : MFv kX3_begins 1 := ⟨nm_X3_begins, (gt_in (i := 556) (by decide +kernel) rfl), (gt_in (i := 557) (by decide +kernel) rfl)⟩
set_option maxRecDepth 100000 in
theorem nm_X3_away : NM kX3_away 2 := ⟨(gt_in (i := 666) rfl rfl), (gt_in (i := 4) (by decide +kernel) rfl), ⟨by decide, by decide, by decide +kernel⟩, by decide⟩
theorem mu_X3_away : MFu kX3_away 2 := ⟨nm_X3_away, (gt_in (i := 650) (by decide +kernel) rfl), by decide⟩
theorem mf_X3_away : MFv kX3_away 2 := ⟨nm_X3_away, (gt_in (i := 650) (by decide +kernel) rfl), (gt_in (i := 651) (by decide +kernel) rfl)⟩
set_option maxRecDepth 100000 in
theorem nm_X4_init : NM kX4_init 3 := ⟨(gt_in (i := 387) rfl rfl), (gt_in (i := 16) (by decide +kernel) rfl), ⟨by decide, by decide, by decide +kernel⟩, by decide⟩
theorem mf_X4_init : MFi kX4_init 3 := ⟨nm_X4_init, (gt_in (i := 386) (by decide +kernel) rfl), rfl, rfl⟩
set_option maxRecDepth 100000 in
theorem nm_X4_says : NM kX4_says 2 := ⟨(gt_in (i := 522) rfl rfl), (gt_in (i := 16) (by decide +kernel) rfl), ⟨by decide, by decide, by decide +kernel⟩, by decide⟩
theorem mu_X4_says : MFu kX4_says 2 := ⟨nm_X4_says, (gt_in (i := 520) (by decide +kernel) rfl), by decide⟩
theorem mf_X4_says : MFv kX4_says 2 := ⟨nm_X4_says, (gt_in (i := 520) (by decide +kernel) rfl), (gt_in (i := 521) (by decide +kernel) rfl)⟩
set_option maxRecDepth 100000 in
theorem nm_X4_joined : NM kX4_joined 3 := ⟨(gt_in (i := 533) rfl rfl), (gt_in (i := 16) (by decide +kernel) rfl), ⟨by decide, by decide, by decide +kernel⟩, by decide⟩
theorem mf_X4_joined : MFs kX4_joined 3 := ⟨nm_X4_joined, (gt_in (i := 532) (by decide +kernel) rfl)⟩
set_option maxRecDepth 100000 in
theorem nm_X4_push : NM kX4_push 1 := ⟨(gt_in (i := 526) rfl rfl), (gt_in (i := 16) (by decide +kernel) rfl), ⟨by decide, by decide, by decide +kernel⟩, by decide⟩
theorem mu_X4_push : MFu kX4_push 1 := ⟨nm_X4_push, (gt_in (i := 525) (by decide +kernel) rfl), by decide⟩
theorem mf_X4_push : MFv kX4_push 1 := ⟨nm_X4_push, (gt_in (i := 525) (by decide +kernel) rfl), (gt_sel (q := (⟨"HotCorner$Law", "push", "(I)V"⟩, 4)) (i := 23) (by decide +kernel))⟩
set_option maxRecDepth 100000 in
theorem nm_X4_pop : NM kX4_pop 0 := ⟨(gt_in (i := 530) rfl rfl), (gt_in (i := 16) (by decide +kernel) rfl), ⟨by decide, by decide, by decide +kernel⟩, by decide⟩
theorem mu_X4_pop : MFu kX4_pop 0 := ⟨nm_X4_pop, (gt_in (i := 529) (by decide +kernel) rfl), by decide⟩
theorem mf_X4_pop : MFv kX4_pop 0 := ⟨nm_X4_pop, (gt_in (i := 529) (by decide +kernel) rfl), (gt_sel (q := (⟨"HotCorner$Law", "pop", "()I"⟩, 4)) (i := 24) (by decide +kernel))⟩
set_option maxRecDepth 100000 in
theorem nm_X5_init : NM kX5_init 0 := ⟨(gt_in (i := 32) rfl rfl), (gt_in (i := 2) (by decide +kernel) rfl), ⟨by decide, by decide, by decide +kernel⟩, by decide⟩
theorem mf_X5_init : MFi kX5_init 0 := ⟨nm_X5_init, (gt_in (i := 31) (by decide +kernel) rfl), rfl, rfl⟩
set_option maxRecDepth 100000 in
theorem nm_X5_become : NM kX5_become 1 := ⟨(gt_in (i := 702) rfl rfl), (gt_in (i := 2) (by decide +kernel) rfl), ⟨by decide, by decide, by decide +kernel⟩, by decide⟩
theorem mu_X5_become : MFu kX5_become 1 := ⟨nm_X5_become, (gt_in (i := 700) (by decide +kernel) rfl), by decide⟩
theorem mf_X5_become : MFv kX5_become 1 := ⟨nm_X5_become, (gt_in (i := 700) (by decide +kernel) rfl), (gt_in (i := 701) (by decide +kernel) rfl)⟩
set_option maxRecDepth 100000 in
theorem nm_X5_cakeOn : NM kX5_cakeOn 1 := ⟨(gt_in (i := 541) rfl rfl), (gt_in (i := 2) (by decide +kernel) rfl), ⟨by decide, by decide, by decide +kernel⟩, by decide⟩
theorem mu_X5_cakeOn : MFu kX5_cakeOn 1 := ⟨nm_X5_cakeOn, (gt_in (i := 539) (by decide +kernel) rfl), by decide⟩
theorem mf_X5_cakeOn : MFv kX5_cakeOn 1 := ⟨nm_X5_cakeOn, (gt_in (i := 539) (by decide +kernel) rfl), (gt_in (i := 540) (by decide +kernel) rfl)⟩
set_option maxRecDepth 100000 in
theorem nm_X5_swapPlaces : NM kX5_swapPlaces 2 := ⟨(gt_in (i := 773) rfl rfl), (gt_in (i := 2) (by decide +kernel) rfl), ⟨by decide, by decide, by decide +kernel⟩, by decide⟩
theorem mu_X5_swapPlaces : MFu kX5_swapPlaces 2 := ⟨nm_X5_swapPlaces, (gt_in (i := 771) (by decide +kernel) rfl), by decide⟩
theorem mf_X5_swapPlaces : MFv kX5_swapPlaces 2 := ⟨nm_X5_swapPlaces, (gt_in (i := 771) (by decide +kernel) rfl), (gt_in (i := 772) (by decide +kernel) rfl)⟩
set_option maxRecDepth 100000 in
theorem nm_X5_plan : NM kX5_plan 3 := ⟨(gt_in (i := 578) rfl rfl), (gt_in (i := 2) (by decide +kernel) rfl), ⟨by decide, by decide, by decide +kernel⟩, by decide⟩
theorem mu_X5_plan : MFu kX5_plan 3 := ⟨nm_X5_plan, (gt_in (i := 576) (by decide +kernel) rfl), by decide⟩
theorem mf_X5_plan : MFv kX5_plan 3 := ⟨nm_X5_plan, (gt_in (i := 576) (by decide +kernel) rfl), (gt_in (i := 577) (by decide +kernel) rfl)⟩
set_option maxRecDepth 100000 in
theorem nm_X6_init : NM kX6_init 0 := ⟨(gt_in (i := 176) rfl rfl), (gt_in (i := 10) (by decide +kernel) rfl), ⟨by decide, by decide, by decide +kernel⟩, by decide⟩
theorem mf_X6_init : MFi kX6_init 0 := ⟨nm_X6_init, (gt_in (i := 175) (by decide +kernel) rfl), rfl, rfl⟩
set_option maxRecDepth 100000 in
theorem nm_X6_take : NM kX6_take 1 := ⟨(gt_in (i := 285) rfl rfl), (gt_in (i := 10) (by decide +kernel) rfl), ⟨by decide, by decide, by decide +kernel⟩, by decide⟩
theorem mu_X6_take : MFu kX6_take 1 := ⟨nm_X6_take, (gt_in (i := 283) (by decide +kernel) rfl), by decide⟩
theorem mf_X6_take : MFv kX6_take 1 := ⟨nm_X6_take, (gt_in (i := 283) (by decide +kernel) rfl), (gt_in (i := 284) (by decide +kernel) rfl)⟩
set_option maxRecDepth 100000 in
theorem nm_X6_byteAt : NM kX6_byteAt 1 := ⟨(gt_in (i := 301) rfl rfl), (gt_in (i := 10) (by decide +kernel) rfl), ⟨by decide, by decide, by decide +kernel⟩, by decide⟩
theorem mu_X6_byteAt : MFu kX6_byteAt 1 := ⟨nm_X6_byteAt, (gt_in (i := 300) (by decide +kernel) rfl), by decide⟩
theorem mf_X6_byteAt : MFv kX6_byteAt 1 := ⟨nm_X6_byteAt, (gt_in (i := 300) (by decide +kernel) rfl), (gt_sel (q := (⟨"HotCorner$Reader", "byteAt", "(I)I"⟩, 10)) (i := 2) (by decide +kernel))⟩
set_option maxRecDepth 100000 in
theorem nm_X6_read : NM kX6_read 0 := ⟨(gt_in (i := 293) rfl rfl), (gt_in (i := 10) (by decide +kernel) rfl), ⟨by decide, by decide, by decide +kernel⟩, by decide⟩
theorem mu_X6_read : MFu kX6_read 0 := ⟨nm_X6_read, (gt_in (i := 291) (by decide +kernel) rfl), by decide⟩
theorem mf_X6_read : MFv kX6_read 0 := ⟨nm_X6_read, (gt_in (i := 291) (by decide +kernel) rfl), (gt_in (i := 292) (by decide +kernel) rfl)⟩
set_option maxRecDepth 100000 in
theorem nm_X6_law : NM kX6_law 0 := ⟨(gt_in (i := 382) rfl rfl), (gt_in (i := 10) (by decide +kernel) rfl), ⟨by decide, by decide, by decide +kernel⟩, by decide⟩
theorem mu_X6_law : MFu kX6_law 0 := ⟨nm_X6_law, (gt_in (i := 380) (by decide +kernel) rfl), by decide⟩
theorem mf_X6_law : MFv kX6_law 0 := ⟨nm_X6_law, (gt_in (i := 380) (by decide +kernel) rfl), (gt_in (i := 381) (by decide +kernel) rfl)⟩
set_option maxRecDepth 100000 in
theorem nm_X6_add : NM kX6_add 1 := ⟨(gt_in (i := 370) rfl rfl), (gt_in (i := 10) (by decide +kernel) rfl), ⟨by decide, by decide, by decide +kernel⟩, by decide⟩
theorem mu_X6_add : MFu kX6_add 1 := ⟨nm_X6_add, (gt_in (i := 369) (by decide +kernel) rfl), by decide⟩
theorem mf_X6_add : MFv kX6_add 1 := ⟨nm_X6_add, (gt_in (i := 369) (by decide +kernel) rfl), (gt_sel (q := (⟨"HotCorner$Reader", "add", "(I)V"⟩, 10)) (i := 15) (by decide +kernel))⟩
set_option maxRecDepth 100000 in
theorem nm_X6_advance : NM kX6_advance 0 := ⟨(gt_in (i := 297) rfl rfl), (gt_in (i := 10) (by decide +kernel) rfl), ⟨by decide, by decide, by decide +kernel⟩, by decide⟩
theorem mu_X6_advance : MFu kX6_advance 0 := ⟨nm_X6_advance, (gt_in (i := 296) (by decide +kernel) rfl), by decide⟩
theorem mf_X6_advance : MFv kX6_advance 0 := ⟨nm_X6_advance, (gt_in (i := 296) (by decide +kernel) rfl), (gt_sel (q := (⟨"HotCorner$Reader", "advance", "()V"⟩, 10)) (i := 1) (by decide +kernel))⟩
set_option maxRecDepth 100000 in
theorem nm_X6_endOf : NM kX6_endOf 2 := ⟨(gt_in (i := 309) rfl rfl), (gt_in (i := 10) (by decide +kernel) rfl), ⟨by decide, by decide, by decide +kernel⟩, by decide⟩
theorem mu_X6_endOf : MFu kX6_endOf 2 := ⟨nm_X6_endOf, (gt_in (i := 308) (by decide +kernel) rfl), by decide⟩
theorem mf_X6_endOf : MFv kX6_endOf 2 := ⟨nm_X6_endOf, (gt_in (i := 308) (by decide +kernel) rfl), (gt_sel (q := (⟨"HotCorner$Reader", "endOf", "(CC)I"⟩, 10)) (i := 4) (by decide +kernel))⟩
set_option maxRecDepth 100000 in
theorem nm_X6_readWord : NM kX6_readWord 0 := ⟨(gt_in (i := 305) rfl rfl), (gt_in (i := 10) (by decide +kernel) rfl), ⟨by decide, by decide, by decide +kernel⟩, by decide⟩
theorem mu_X6_readWord : MFu kX6_readWord 0 := ⟨nm_X6_readWord, (gt_in (i := 304) (by decide +kernel) rfl), by decide⟩
theorem mf_X6_readWord : MFv kX6_readWord 0 := ⟨nm_X6_readWord, (gt_in (i := 304) (by decide +kernel) rfl), (gt_sel (q := (⟨"HotCorner$Reader", "readWord", "()V"⟩, 10)) (i := 3) (by decide +kernel))⟩
set_option maxRecDepth 100000 in
theorem nm_X6_readNumber : NM kX6_readNumber 0 := ⟨(gt_in (i := 334) rfl rfl), (gt_in (i := 10) (by decide +kernel) rfl), ⟨by decide, by decide, by decide +kernel⟩, by decide⟩
theorem mu_X6_readNumber : MFu kX6_readNumber 0 := ⟨nm_X6_readNumber, (gt_in (i := 333) (by decide +kernel) rfl), by decide⟩
theorem mf_X6_readNumber : MFv kX6_readNumber 0 := ⟨nm_X6_readNumber, (gt_in (i := 333) (by decide +kernel) rfl), (gt_sel (q := (⟨"HotCorner$Reader", "readNumber", "()V"⟩, 10)) (i := 6) (by decide +kernel))⟩
set_option maxRecDepth 100000 in
theorem nm_X6_readSign : NM kX6_readSign 1 := ⟨(gt_in (i := 338) rfl rfl), (gt_in (i := 10) (by decide +kernel) rfl), ⟨by decide, by decide, by decide +kernel⟩, by decide⟩
theorem mu_X6_readSign : MFu kX6_readSign 1 := ⟨nm_X6_readSign, (gt_in (i := 337) (by decide +kernel) rfl), by decide⟩
theorem mf_X6_readSign : MFv kX6_readSign 1 := ⟨nm_X6_readSign, (gt_in (i := 337) (by decide +kernel) rfl), (gt_sel (q := (⟨"HotCorner$Reader", "readSign", "(I)V"⟩, 10)) (i := 7) (by decide +kernel))⟩
set_option maxRecDepth 100000 in
theorem nm_X6_isHere : NM kX6_isHere 1 := ⟨(gt_in (i := 328) rfl rfl), (gt_in (i := 10) (by decide +kernel) rfl), ⟨by decide, by decide, by decide +kernel⟩, by decide⟩
theorem mu_X6_isHere : MFu kX6_isHere 1 := ⟨nm_X6_isHere, (gt_in (i := 327) (by decide +kernel) rfl), by decide⟩
theorem mf_X6_isHere : MFv kX6_isHere 1 := ⟨nm_X6_isHere, (gt_in (i := 327) (by decide +kernel) rfl), (gt_sel (q := (⟨"HotCorner$Reader", "isHere", "(Ljava/lang/String;)Z"⟩, 10)) (i := 5) (by decide +kernel))⟩
set_option maxRecDepth 100000 in
theorem nm_X6_word : NM kX6_word 1 := ⟨(gt_in (i := 312) rfl rfl), (gt_in (i := 10) (by decide +kernel) rfl), ⟨by decide, by decide, by decide +kernel⟩, by decide⟩
theorem mf_X6_word : MFs kX6_word 1 := ⟨nm_X6_word, (gt_in (i := 311) (by decide +kernel) rfl)⟩
set_option maxRecDepth 100000 in
theorem nm_X6_readOr : NM kX6_readOr 0 := ⟨(gt_in (i := 342) rfl rfl), (gt_in (i := 10) (by decide +kernel) rfl), ⟨by decide, by decide, by decide +kernel⟩, by decide⟩
theorem mu_X6_readOr : MFu kX6_readOr 0 := ⟨nm_X6_readOr, (gt_in (i := 341) (by decide +kernel) rfl), by decide⟩
theorem mf_X6_readOr : MFv kX6_readOr 0 := ⟨nm_X6_readOr, (gt_in (i := 341) (by decide +kernel) rfl), (gt_sel (q := (⟨"HotCorner$Reader", "readOr", "()Z"⟩, 10)) (i := 8) (by decide +kernel))⟩
set_option maxRecDepth 100000 in
theorem nm_X6_readAnd : NM kX6_readAnd 0 := ⟨(gt_in (i := 346) rfl rfl), (gt_in (i := 10) (by decide +kernel) rfl), ⟨by decide, by decide, by decide +kernel⟩, by decide⟩
theorem mu_X6_readAnd : MFu kX6_readAnd 0 := ⟨nm_X6_readAnd, (gt_in (i := 345) (by decide +kernel) rfl), by decide⟩
theorem mf_X6_readAnd : MFv kX6_readAnd 0 := ⟨nm_X6_readAnd, (gt_in (i := 345) (by decide +kernel) rfl), (gt_sel (q := (⟨"HotCorner$Reader", "readAnd", "()Z"⟩, 10)) (i := 9) (by decide +kernel))⟩
set_option maxRecDepth 100000 in
theorem nm_X6_readNot : NM kX6_readNot 0 := ⟨(gt_in (i := 350) rfl rfl), (gt_in (i := 10) (by decide +kernel) rfl), ⟨by decide, by decide, by decide +kernel⟩, by decide⟩
theorem mu_X6_readNot : MFu kX6_readNot 0 := ⟨nm_X6_readNot, (gt_in (i := 349) (by decide +kernel) rfl), by decide⟩
theorem mf_X6_readNot : MFv kX6_readNot 0 := ⟨nm_X6_readNot, (gt_in (i := 349) (by decide +kernel) rfl), (gt_sel (q := (⟨"HotCorner$Reader", "readNot", "()Z"⟩, 10)) (i := 10) (by decide +kernel))⟩
set_option maxRecDepth 100000 in
theorem nm_X6_readCompared : NM kX6_readCompared 0 := ⟨(gt_in (i := 354) rfl rfl), (gt_in (i := 10) (by decide +kernel) rfl), ⟨by decide, by decide, by decide +kernel⟩, by decide⟩
theorem mu_X6_readCompared : MFu kX6_readCompared 0 := ⟨nm_X6_readCompared, (gt_in (i := 353) (by decide +kernel) rfl), by decide⟩
theorem mf_X6_readCompared : MFv kX6_readCompared 0 := ⟨nm_X6_readCompared, (gt_in (i := 353) (by decide +kernel) rfl), (gt_sel (q := (⟨"HotCorner$Reader", "readCompared", "()Z"⟩, 10)) (i := 11) (by decide +kernel))⟩
set_option maxRecDepth 100000 in
theorem nm_X6_readSum : NM kX6_readSum 0 := ⟨(gt_in (i := 358) rfl rfl), (gt_in (i := 10) (by decide +kernel) rfl), ⟨by decide, by decide, by decide +kernel⟩, by decide⟩
theorem mu_X6_readSum : MFu kX6_readSum 0 := ⟨nm_X6_readSum, (gt_in (i := 357) (by decide +kernel) rfl), by decide⟩
theorem mf_X6_readSum : MFv kX6_readSum 0 := ⟨nm_X6_readSum, (gt_in (i := 357) (by decide +kernel) rfl), (gt_sel (q := (⟨"HotCorner$Reader", "readSum", "()Z"⟩, 10)) (i := 12) (by decide +kernel))⟩
set_option maxRecDepth 100000 in
theorem nm_X6_readTerm : NM kX6_readTerm 0 := ⟨(gt_in (i := 362) rfl rfl), (gt_in (i := 10) (by decide +kernel) rfl), ⟨by decide, by decide, by decide +kernel⟩, by decide⟩
theorem mu_X6_readTerm : MFu kX6_readTerm 0 := ⟨nm_X6_readTerm, (gt_in (i := 361) (by decide +kernel) rfl), by decide⟩
theorem mf_X6_readTerm : MFv kX6_readTerm 0 := ⟨nm_X6_readTerm, (gt_in (i := 361) (by decide +kernel) rfl), (gt_sel (q := (⟨"HotCorner$Reader", "readTerm", "()Z"⟩, 10)) (i := 13) (by decide +kernel))⟩
set_option maxRecDepth 100000 in
theorem nm_X6_readOne : NM kX6_readOne 0 := ⟨(gt_in (i := 366) rfl rfl), (gt_in (i := 10) (by decide +kernel) rfl), ⟨by decide, by decide, by decide +kernel⟩, by decide⟩
theorem mu_X6_readOne : MFu kX6_readOne 0 := ⟨nm_X6_readOne, (gt_in (i := 365) (by decide +kernel) rfl), by decide⟩
theorem mf_X6_readOne : MFv kX6_readOne 0 := ⟨nm_X6_readOne, (gt_in (i := 365) (by decide +kernel) rfl), (gt_sel (q := (⟨"HotCorner$Reader", "readOne", "()Z"⟩, 10)) (i := 14) (by decide +kernel))⟩
set_option maxRecDepth 100000 in
theorem nm_X6_readNegative : NM kX6_readNegative 0 := ⟨(gt_in (i := 374) rfl rfl), (gt_in (i := 10) (by decide +kernel) rfl), ⟨by decide, by decide, by decide +kernel⟩, by decide⟩
theorem mu_X6_readNegative : MFu kX6_readNegative 0 := ⟨nm_X6_readNegative, (gt_in (i := 373) (by decide +kernel) rfl), by decide⟩
theorem mf_X6_readNegative : MFv kX6_readNegative 0 := ⟨nm_X6_readNegative, (gt_in (i := 373) (by decide +kernel) rfl), (gt_sel (q := (⟨"HotCorner$Reader", "readNegative", "()Z"⟩, 10)) (i := 16) (by decide +kernel))⟩
set_option maxRecDepth 100000 in
theorem nm_X6_readInner : NM kX6_readInner 0 := ⟨(gt_in (i := 378) rfl rfl), (gt_in (i := 10) (by decide +kernel) rfl), ⟨by decide, by decide, by decide +kernel⟩, by decide⟩
theorem mu_X6_readInner : MFu kX6_readInner 0 := ⟨nm_X6_readInner, (gt_in (i := 377) (by decide +kernel) rfl), by decide⟩
theorem mf_X6_readInner : MFv kX6_readInner 0 := ⟨nm_X6_readInner, (gt_in (i := 377) (by decide +kernel) rfl), (gt_sel (q := (⟨"HotCorner$Reader", "readInner", "()Z"⟩, 10)) (i := 17) (by decide +kernel))⟩
set_option maxRecDepth 100000 in
theorem nm_X7_init : NM kX7_init 0 := ⟨(gt_in (i := 218) rfl rfl), (gt_in (i := 11) (by decide +kernel) rfl), ⟨by decide, by decide, by decide +kernel⟩, by decide⟩
theorem mf_X7_init : MFi kX7_init 0 := ⟨nm_X7_init, (gt_in (i := 217) (by decide +kernel) rfl), rfl, rfl⟩
set_option maxRecDepth 100000 in
theorem nm_X7_become : NM kX7_become 2 := ⟨(gt_in (i := 822) rfl rfl), (gt_in (i := 11) (by decide +kernel) rfl), ⟨by decide, by decide, by decide +kernel⟩, by decide⟩
theorem mu_X7_become : MFu kX7_become 2 := ⟨nm_X7_become, (gt_in (i := 820) (by decide +kernel) rfl), by decide⟩
theorem mf_X7_become : MFv kX7_become 2 := ⟨nm_X7_become, (gt_in (i := 820) (by decide +kernel) rfl), (gt_in (i := 821) (by decide +kernel) rfl)⟩
set_option maxRecDepth 100000 in
theorem nm_X7_cellAt : NM kX7_cellAt 1 := ⟨(gt_in (i := 793) rfl rfl), (gt_in (i := 11) (by decide +kernel) rfl), ⟨by decide, by decide, by decide +kernel⟩, by decide⟩
theorem mu_X7_cellAt : MFu kX7_cellAt 1 := ⟨nm_X7_cellAt, (gt_in (i := 791) (by decide +kernel) rfl), by decide⟩
theorem mf_X7_cellAt : MFv kX7_cellAt 1 := ⟨nm_X7_cellAt, (gt_in (i := 791) (by decide +kernel) rfl), (gt_in (i := 792) (by decide +kernel) rfl)⟩
set_option maxRecDepth 100000 in
theorem nm_X7_put : NM kX7_put 2 := ⟨(gt_in (i := 826) rfl rfl), (gt_in (i := 11) (by decide +kernel) rfl), ⟨by decide, by decide, by decide +kernel⟩, by decide⟩
theorem mu_X7_put : MFu kX7_put 2 := ⟨nm_X7_put, (gt_in (i := 824) (by decide +kernel) rfl), by decide⟩
theorem mf_X7_put : MFv kX7_put 2 := ⟨nm_X7_put, (gt_in (i := 824) (by decide +kernel) rfl), (gt_in (i := 825) (by decide +kernel) rfl)⟩
set_option maxRecDepth 100000 in
theorem nm_X8_init : NM kX8_init 0 := ⟨(gt_in (i := 133) rfl rfl), (gt_in (i := 8) (by decide +kernel) rfl), ⟨by decide, by decide, by decide +kernel⟩, by decide⟩
theorem mf_X8_init : MFi kX8_init 0 := ⟨nm_X8_init, (gt_in (i := 132) (by decide +kernel) rfl), rfl, rfl⟩
set_option maxRecDepth 100000 in
theorem nm_X8_gains : NM kX8_gains 3 := ⟨(gt_in (i := 620) rfl rfl), (gt_in (i := 8) (by decide +kernel) rfl), ⟨by decide, by decide, by decide +kernel⟩, by decide⟩
theorem mu_X8_gains : MFu kX8_gains 3 := ⟨nm_X8_gains, (gt_in (i := 619) (by decide +kernel) rfl), by decide⟩
set_option maxRecDepth 100000 in
theorem nm_X8_away : NM kX8_away 2 := ⟨(gt_in (i := 660) rfl rfl), (gt_in (i := 8) (by decide +kernel) rfl), ⟨by decide, by decide, by decide +kernel⟩, by decide⟩
theorem mu_X8_away : MFu kX8_away 2 := ⟨nm_X8_away, (gt_in (i := 659) (by decide +kernel) rfl), by decide⟩
set_option maxRecDepth 100000 in
theorem nm_X9_init : NM kX9_init 0 := ⟨(gt_in (i := 112) rfl rfl), (gt_in (i := 5) (by decide +kernel) rfl), ⟨by decide, by decide, by decide +kernel⟩, by decide⟩
theorem mf_X9_init : MFi kX9_init 0 := ⟨nm_X9_init, (gt_in (i := 111) (by decide +kernel) rfl), rfl, rfl⟩
set_option maxRecDepth 100000 in
theorem nm_X9_gains : NM kX9_gains 3 := ⟨(gt_in (i := 615) rfl rfl), (gt_in (i := 5) (by decide +kernel) rfl), ⟨by decide, by decide, by decide +kernel⟩, by decide⟩
theorem mu_X9_gains : MFu kX9_gains 3 := ⟨nm_X9_gains, (gt_in (i := 614) (by decide +kernel) rfl), by decide⟩
set_option maxRecDepth 100000 in
theorem nm_X9_begins : NM kX9_begins 1 := ⟨(gt_in (i := 564) rfl rfl), (gt_in (i := 5) (by decide +kernel) rfl), ⟨by decide, by decide, by decide +kernel⟩, by decide⟩
theorem mu_X9_begins : MFu kX9_begins 1 := ⟨nm_X9_begins, (gt_in (i := 563) (by decide +kernel) rfl), by decide⟩
set_option maxRecDepth 100000 in
theorem nm_X10_init : NM kX10_init 0 := ⟨(gt_in (i := 119) rfl rfl), (gt_in (i := 6) (by decide +kernel) rfl), ⟨by decide, by decide, by decide +kernel⟩, by decide⟩
theorem mf_X10_init : MFi kX10_init 0 := ⟨nm_X10_init, (gt_in (i := 118) (by decide +kernel) rfl), rfl, rfl⟩
set_option maxRecDepth 100000 in
theorem nm_X10_gains : NM kX10_gains 3 := ⟨(gt_in (i := 623) rfl rfl), (gt_in (i := 6) (by decide +kernel) rfl), ⟨by decide, by decide, by decide +kernel⟩, by decide⟩
theorem mu_X10_gains : MFu kX10_gains 3 := ⟨nm_X10_gains, (gt_in (i := 622) (by decide +kernel) rfl), by decide⟩
set_option maxRecDepth 100000 in
theorem nm_X11_init : NM kX11_init 0 := ⟨(gt_in (i := 24) rfl rfl), (gt_in (i := 1) (by decide +kernel) rfl), ⟨by decide, by decide, by decide +kernel⟩, by decide⟩
theorem mf_X11_init : MFi kX11_init 0 := ⟨nm_X11_init, (gt_in (i := 23) (by decide +kernel) rfl), rfl, rfl⟩
set_option maxRecDepth 100000 in
theorem nm_X11_count : NM kX11_count 1 := ⟨(gt_in (i := 449) rfl rfl), (gt_in (i := 1) (by decide +kernel) rfl), ⟨by decide, by decide, by decide +kernel⟩, by decide⟩
theorem mu_X11_count : MFu kX11_count 1 := ⟨nm_X11_count, (gt_in (i := 447) (by decide +kernel) rfl), by decide⟩
theorem mf_X11_count : MFv kX11_count 1 := ⟨nm_X11_count, (gt_in (i := 447) (by decide +kernel) rfl), (gt_in (i := 448) (by decide +kernel) rfl)⟩
set_option maxRecDepth 100000 in
theorem nm_X11_set : NM kX11_set 3 := ⟨(gt_in (i := 453) rfl rfl), (gt_in (i := 1) (by decide +kernel) rfl), ⟨by decide, by decide, by decide +kernel⟩, by decide⟩
theorem mu_X11_set : MFu kX11_set 3 := ⟨nm_X11_set, (gt_in (i := 451) (by decide +kernel) rfl), by decide⟩
theorem mf_X11_set : MFv kX11_set 3 := ⟨nm_X11_set, (gt_in (i := 451) (by decide +kernel) rfl), (gt_in (i := 452) (by decide +kernel) rfl)⟩
set_option maxRecDepth 100000 in
theorem nm_X11_setHot : NM kX11_setHot 2 := ⟨(gt_in (i := 457) rfl rfl), (gt_in (i := 1) (by decide +kernel) rfl), ⟨by decide, by decide, by decide +kernel⟩, by decide⟩
theorem mu_X11_setHot : MFu kX11_setHot 2 := ⟨nm_X11_setHot, (gt_in (i := 456) (by decide +kernel) rfl), by decide⟩
theorem mf_X11_setHot : MFv kX11_setHot 2 := ⟨nm_X11_setHot, (gt_in (i := 456) (by decide +kernel) rfl), (gt_sel (q := (⟨"HotCorner", "setHot", "(II)I"⟩, 12)) (i := 18) (by decide +kernel))⟩
set_option maxRecDepth 100000 in
theorem nm_X11_setTime : NM kX11_setTime 1 := ⟨(gt_in (i := 464) rfl rfl), (gt_in (i := 1) (by decide +kernel) rfl), ⟨by decide, by decide, by decide +kernel⟩, by decide⟩
theorem mu_X11_setTime : MFu kX11_setTime 1 := ⟨nm_X11_setTime, (gt_in (i := 463) (by decide +kernel) rfl), by decide⟩
theorem mf_X11_setTime : MFv kX11_setTime 1 := ⟨nm_X11_setTime, (gt_in (i := 463) (by decide +kernel) rfl), (gt_sel (q := (⟨"HotCorner", "setTime", "(I)I"⟩, 12)) (i := 19) (by decide +kernel))⟩
set_option maxRecDepth 100000 in
theorem nm_X11_setLies : NM kX11_setLies 1 := ⟨(gt_in (i := 468) rfl rfl), (gt_in (i := 1) (by decide +kernel) rfl), ⟨by decide, by decide, by decide +kernel⟩, by decide⟩
theorem mu_X11_setLies : MFu kX11_setLies 1 := ⟨nm_X11_setLies, (gt_in (i := 467) (by decide +kernel) rfl), by decide⟩
theorem mf_X11_setLies : MFv kX11_setLies 1 := ⟨nm_X11_setLies, (gt_in (i := 467) (by decide +kernel) rfl), (gt_sel (q := (⟨"HotCorner", "setLies", "(I)I"⟩, 12)) (i := 20) (by decide +kernel))⟩
set_option maxRecDepth 100000 in
theorem nm_X11_hot : NM kX11_hot 1 := ⟨(gt_in (i := 472) rfl rfl), (gt_in (i := 1) (by decide +kernel) rfl), ⟨by decide, by decide, by decide +kernel⟩, by decide⟩
theorem mu_X11_hot : MFu kX11_hot 1 := ⟨nm_X11_hot, (gt_in (i := 470) (by decide +kernel) rfl), by decide⟩
theorem mf_X11_hot : MFv kX11_hot 1 := ⟨nm_X11_hot, (gt_in (i := 470) (by decide +kernel) rfl), (gt_in (i := 471) (by decide +kernel) rfl)⟩
set_option maxRecDepth 100000 in
theorem nm_X11_spot : NM kX11_spot 2 := ⟨(gt_in (i := 476) rfl rfl), (gt_in (i := 1) (by decide +kernel) rfl), ⟨by decide, by decide, by decide +kernel⟩, by decide⟩
theorem mu_X11_spot : MFu kX11_spot 2 := ⟨nm_X11_spot, (gt_in (i := 474) (by decide +kernel) rfl), by decide⟩
theorem mf_X11_spot : MFv kX11_spot 2 := ⟨nm_X11_spot, (gt_in (i := 474) (by decide +kernel) rfl), (gt_in (i := 475) (by decide +kernel) rfl)⟩
set_option maxRecDepth 100000 in
theorem nm_X11_feed : NM kX11_feed 6 := ⟨(gt_in (i := 483) rfl rfl), (gt_in (i := 1) (by decide +kernel) rfl), ⟨by decide, by decide, by decide +kernel⟩, by decide⟩
theorem mu_X11_feed : MFu kX11_feed 6 := ⟨nm_X11_feed, (gt_in (i := 481) (by decide +kernel) rfl), by decide⟩
theorem mf_X11_feed : MFv kX11_feed 6 := ⟨nm_X11_feed, (gt_in (i := 481) (by decide +kernel) rfl), (gt_in (i := 482) (by decide +kernel) rfl)⟩
set_option maxRecDepth 100000 in
theorem nm_X11_text : NM kX11_text 0 := ⟨(gt_in (i := 490) rfl rfl), (gt_in (i := 1) (by decide +kernel) rfl), ⟨by decide, by decide, by decide +kernel⟩, by decide⟩
theorem mu_X11_text : MFu kX11_text 0 := ⟨nm_X11_text, (gt_in (i := 488) (by decide +kernel) rfl), by decide⟩
theorem mf_X11_text : MFv kX11_text 0 := ⟨nm_X11_text, (gt_in (i := 488) (by decide +kernel) rfl), (gt_in (i := 489) (by decide +kernel) rfl)⟩
set_option maxRecDepth 100000 in
theorem nm_X11_readText : NM kX11_readText 0 := ⟨(gt_in (i := 289) rfl rfl), (gt_in (i := 1) (by decide +kernel) rfl), ⟨by decide, by decide, by decide +kernel⟩, by decide⟩
theorem mu_X11_readText : MFu kX11_readText 0 := ⟨nm_X11_readText, (gt_in (i := 288) (by decide +kernel) rfl), by decide⟩
theorem mf_X11_readText : MFv kX11_readText 0 := ⟨nm_X11_readText, (gt_in (i := 288) (by decide +kernel) rfl), (gt_sel (q := (⟨"HotCorner", "readText", "()I"⟩, 12)) (i := 0) (by decide +kernel))⟩
set_option maxRecDepth 100000 in
theorem nm_X11_force : NM kX11_force 1 := ⟨(gt_in (i := 494) rfl rfl), (gt_in (i := 1) (by decide +kernel) rfl), ⟨by decide, by decide, by decide +kernel⟩, by decide⟩
theorem mu_X11_force : MFu kX11_force 1 := ⟨nm_X11_force, (gt_in (i := 492) (by decide +kernel) rfl), by decide⟩
theorem mf_X11_force : MFv kX11_force 1 := ⟨nm_X11_force, (gt_in (i := 492) (by decide +kernel) rfl), (gt_in (i := 493) (by decide +kernel) rfl)⟩
set_option maxRecDepth 100000 in
theorem nm_X11_asks : NM kX11_asks 4 := ⟨(gt_in (i := 498) rfl rfl), (gt_in (i := 1) (by decide +kernel) rfl), ⟨by decide, by decide, by decide +kernel⟩, by decide⟩
theorem mu_X11_asks : MFu kX11_asks 4 := ⟨nm_X11_asks, (gt_in (i := 496) (by decide +kernel) rfl), by decide⟩
theorem mf_X11_asks : MFv kX11_asks 4 := ⟨nm_X11_asks, (gt_in (i := 496) (by decide +kernel) rfl), (gt_in (i := 497) (by decide +kernel) rfl)⟩
set_option maxRecDepth 100000 in
theorem nm_X11_cake : NM kX11_cake 3 := ⟨(gt_in (i := 537) rfl rfl), (gt_in (i := 1) (by decide +kernel) rfl), ⟨by decide, by decide, by decide +kernel⟩, by decide⟩
theorem mu_X11_cake : MFu kX11_cake 3 := ⟨nm_X11_cake, (gt_in (i := 535) (by decide +kernel) rfl), by decide⟩
theorem mf_X11_cake : MFv kX11_cake 3 := ⟨nm_X11_cake, (gt_in (i := 535) (by decide +kernel) rfl), (gt_in (i := 536) (by decide +kernel) rfl)⟩
set_option maxRecDepth 100000 in
theorem nm_X11_move : NM kX11_move 2 := ⟨(gt_in (i := 545) rfl rfl), (gt_in (i := 1) (by decide +kernel) rfl), ⟨by decide, by decide, by decide +kernel⟩, by decide⟩
theorem mu_X11_move : MFu kX11_move 2 := ⟨nm_X11_move, (gt_in (i := 543) (by decide +kernel) rfl), by decide⟩
theorem mf_X11_move : MFv kX11_move 2 := ⟨nm_X11_move, (gt_in (i := 543) (by decide +kernel) rfl), (gt_in (i := 544) (by decide +kernel) rfl)⟩
set_option maxRecDepth 100000 in
theorem nm_X11_told : NM kX11_told 2 := ⟨(gt_in (i := 549) rfl rfl), (gt_in (i := 1) (by decide +kernel) rfl), ⟨by decide, by decide, by decide +kernel⟩, by decide⟩
theorem mu_X11_told : MFu kX11_told 2 := ⟨nm_X11_told, (gt_in (i := 547) (by decide +kernel) rfl), by decide⟩
theorem mf_X11_told : MFv kX11_told 2 := ⟨nm_X11_told, (gt_in (i := 547) (by decide +kernel) rfl), (gt_in (i := 548) (by decide +kernel) rfl)⟩
set_option maxRecDepth 100000 in
theorem nm_X11_open : NM kX11_open 2 := ⟨(gt_in (i := 574) rfl rfl), (gt_in (i := 1) (by decide +kernel) rfl), ⟨by decide, by decide, by decide +kernel⟩, by decide⟩
theorem mu_X11_open : MFu kX11_open 2 := ⟨nm_X11_open, (gt_in (i := 572) (by decide +kernel) rfl), by decide⟩
theorem mf_X11_open : MFv kX11_open 2 := ⟨nm_X11_open, (gt_in (i := 572) (by decide +kernel) rfl), (gt_in (i := 573) (by decide +kernel) rfl)⟩
set_option maxRecDepth 100000 in
theorem nm_X11_opening : NM kX11_opening 2 := ⟨(gt_in (i := 582) rfl rfl), (gt_in (i := 1) (by decide +kernel) rfl), ⟨by decide, by decide, by decide +kernel⟩, by decide⟩
theorem mu_X11_opening : MFu kX11_opening 2 := ⟨nm_X11_opening, (gt_in (i := 580) (by decide +kernel) rfl), by decide⟩
theorem mf_X11_opening : MFv kX11_opening 2 := ⟨nm_X11_opening, (gt_in (i := 580) (by decide +kernel) rfl), (gt_in (i := 581) (by decide +kernel) rfl)⟩
set_option maxRecDepth 100000 in
theorem nm_X11_shut : NM kX11_shut 0 := ⟨(gt_in (i := 586) rfl rfl), (gt_in (i := 1) (by decide +kernel) rfl), ⟨by decide, by decide, by decide +kernel⟩, by decide⟩
theorem mu_X11_shut : MFu kX11_shut 0 := ⟨nm_X11_shut, (gt_in (i := 584) (by decide +kernel) rfl), by decide⟩
theorem mf_X11_shut : MFv kX11_shut 0 := ⟨nm_X11_shut, (gt_in (i := 584) (by decide +kernel) rfl), (gt_in (i := 585) (by decide +kernel) rfl)⟩
set_option maxRecDepth 100000 in
theorem nm_X11_at : NM kX11_at 2 := ⟨(gt_in (i := 590) rfl rfl), (gt_in (i := 1) (by decide +kernel) rfl), ⟨by decide, by decide, by decide +kernel⟩, by decide⟩
theorem mu_X11_at : MFu kX11_at 2 := ⟨nm_X11_at, (gt_in (i := 588) (by decide +kernel) rfl), by decide⟩
theorem mf_X11_at : MFv kX11_at 2 := ⟨nm_X11_at, (gt_in (i := 588) (by decide +kernel) rfl), (gt_in (i := 589) (by decide +kernel) rfl)⟩
set_option maxRecDepth 100000 in
theorem nm_X11_end : NM kX11_end 1 := ⟨(gt_in (i := 632) rfl rfl), (gt_in (i := 1) (by decide +kernel) rfl), ⟨by decide, by decide, by decide +kernel⟩, by decide⟩
theorem mu_X11_end : MFu kX11_end 1 := ⟨nm_X11_end, (gt_in (i := 630) (by decide +kernel) rfl), by decide⟩
theorem mf_X11_end : MFv kX11_end 1 := ⟨nm_X11_end, (gt_in (i := 630) (by decide +kernel) rfl), (gt_in (i := 631) (by decide +kernel) rfl)⟩
set_option maxRecDepth 100000 in
theorem nm_X11_off : NM kX11_off 2 := ⟨(gt_in (i := 688) rfl rfl), (gt_in (i := 1) (by decide +kernel) rfl), ⟨by decide, by decide, by decide +kernel⟩, by decide⟩
theorem mu_X11_off : MFu kX11_off 2 := ⟨nm_X11_off, (gt_in (i := 686) (by decide +kernel) rfl), by decide⟩
theorem mf_X11_off : MFv kX11_off 2 := ⟨nm_X11_off, (gt_in (i := 686) (by decide +kernel) rfl), (gt_in (i := 687) (by decide +kernel) rfl)⟩
set_option maxRecDepth 100000 in
theorem nm_X11_when : NM kX11_when 2 := ⟨(gt_in (i := 694) rfl rfl), (gt_in (i := 1) (by decide +kernel) rfl), ⟨by decide, by decide, by decide +kernel⟩, by decide⟩
theorem mu_X11_when : MFu kX11_when 2 := ⟨nm_X11_when, (gt_in (i := 692) (by decide +kernel) rfl), by decide⟩
theorem mf_X11_when : MFv kX11_when 2 := ⟨nm_X11_when, (gt_in (i := 692) (by decide +kernel) rfl), (gt_in (i := 693) (by decide +kernel) rfl)⟩
set_option maxRecDepth 100000 in
theorem nm_X11_twice : NM kX11_twice 1 := ⟨(gt_in (i := 729) rfl rfl), (gt_in (i := 1) (by decide +kernel) rfl), ⟨by decide, by decide, by decide +kernel⟩, by decide⟩
theorem mu_X11_twice : MFu kX11_twice 1 := ⟨nm_X11_twice, (gt_in (i := 727) (by decide +kernel) rfl), by decide⟩
theorem mf_X11_twice : MFv kX11_twice 1 := ⟨nm_X11_twice, (gt_in (i := 727) (by decide +kernel) rfl), (gt_in (i := 728) (by decide +kernel) rfl)⟩
set_option maxRecDepth 100000 in
theorem nm_X11_until : NM kX11_until 1 := ⟨(gt_in (i := 733) rfl rfl), (gt_in (i := 1) (by decide +kernel) rfl), ⟨by decide, by decide, by decide +kernel⟩, by decide⟩
theorem mu_X11_until : MFu kX11_until 1 := ⟨nm_X11_until, (gt_in (i := 731) (by decide +kernel) rfl), by decide⟩
theorem mf_X11_until : MFv kX11_until 1 := ⟨nm_X11_until, (gt_in (i := 731) (by decide +kernel) rfl), (gt_in (i := 732) (by decide +kernel) rfl)⟩
set_option maxRecDepth 100000 in
theorem nm_X11_out : NM kX11_out 2 := ⟨(gt_in (i := 737) rfl rfl), (gt_in (i := 1) (by decide +kernel) rfl), ⟨by decide, by decide, by decide +kernel⟩, by decide⟩
theorem mu_X11_out : MFu kX11_out 2 := ⟨nm_X11_out, (gt_in (i := 735) (by decide +kernel) rfl), by decide⟩
theorem mf_X11_out : MFv kX11_out 2 := ⟨nm_X11_out, (gt_in (i := 735) (by decide +kernel) rfl), (gt_in (i := 736) (by decide +kernel) rfl)⟩
set_option maxRecDepth 100000 in
theorem nm_X11_weighOut : NM kX11_weighOut 1 := ⟨(gt_in (i := 741) rfl rfl), (gt_in (i := 1) (by decide +kernel) rfl), ⟨by decide, by decide, by decide +kernel⟩, by decide⟩
theorem mu_X11_weighOut : MFu kX11_weighOut 1 := ⟨nm_X11_weighOut, (gt_in (i := 740) (by decide +kernel) rfl), by decide⟩
theorem mf_X11_weighOut : MFv kX11_weighOut 1 := ⟨nm_X11_weighOut, (gt_in (i := 740) (by decide +kernel) rfl), (gt_sel (q := (⟨"HotCorner", "weighOut", "(I)V"⟩, 12)) (i := 34) (by decide +kernel))⟩
set_option maxRecDepth 100000 in
theorem nm_X11_singly : NM kX11_singly 0 := ⟨(gt_in (i := 745) rfl rfl), (gt_in (i := 1) (by decide +kernel) rfl), ⟨by decide, by decide, by decide +kernel⟩, by decide⟩
theorem mu_X11_singly : MFu kX11_singly 0 := ⟨nm_X11_singly, (gt_in (i := 743) (by decide +kernel) rfl), by decide⟩
theorem mf_X11_singly : MFv kX11_singly 0 := ⟨nm_X11_singly, (gt_in (i := 743) (by decide +kernel) rfl), (gt_in (i := 744) (by decide +kernel) rfl)⟩
set_option maxRecDepth 100000 in
theorem nm_X11_soon : NM kX11_soon 2 := ⟨(gt_in (i := 749) rfl rfl), (gt_in (i := 1) (by decide +kernel) rfl), ⟨by decide, by decide, by decide +kernel⟩, by decide⟩
theorem mu_X11_soon : MFu kX11_soon 2 := ⟨nm_X11_soon, (gt_in (i := 747) (by decide +kernel) rfl), by decide⟩
theorem mf_X11_soon : MFv kX11_soon 2 := ⟨nm_X11_soon, (gt_in (i := 747) (by decide +kernel) rfl), (gt_in (i := 748) (by decide +kernel) rfl)⟩
set_option maxRecDepth 100000 in
theorem nm_X11_few : NM kX11_few 1 := ⟨(gt_in (i := 753) rfl rfl), (gt_in (i := 1) (by decide +kernel) rfl), ⟨by decide, by decide, by decide +kernel⟩, by decide⟩
theorem mu_X11_few : MFu kX11_few 1 := ⟨nm_X11_few, (gt_in (i := 751) (by decide +kernel) rfl), by decide⟩
theorem mf_X11_few : MFv kX11_few 1 := ⟨nm_X11_few, (gt_in (i := 751) (by decide +kernel) rfl), (gt_in (i := 752) (by decide +kernel) rfl)⟩
set_option maxRecDepth 100000 in
theorem nm_X11_fan : NM kX11_fan 0 := ⟨(gt_in (i := 757) rfl rfl), (gt_in (i := 1) (by decide +kernel) rfl), ⟨by decide, by decide, by decide +kernel⟩, by decide⟩
theorem mu_X11_fan : MFu kX11_fan 0 := ⟨nm_X11_fan, (gt_in (i := 755) (by decide +kernel) rfl), by decide⟩
theorem mf_X11_fan : MFv kX11_fan 0 := ⟨nm_X11_fan, (gt_in (i := 755) (by decide +kernel) rfl), (gt_in (i := 756) (by decide +kernel) rfl)⟩
set_option maxRecDepth 100000 in
theorem nm_X11_cost : NM kX11_cost 0 := ⟨(gt_in (i := 761) rfl rfl), (gt_in (i := 1) (by decide +kernel) rfl), ⟨by decide, by decide, by decide +kernel⟩, by decide⟩
theorem mu_X11_cost : MFu kX11_cost 0 := ⟨nm_X11_cost, (gt_in (i := 759) (by decide +kernel) rfl), by decide⟩
theorem mf_X11_cost : MFv kX11_cost 0 := ⟨nm_X11_cost, (gt_in (i := 759) (by decide +kernel) rfl), (gt_in (i := 760) (by decide +kernel) rfl)⟩
set_option maxRecDepth 100000 in
theorem nm_X11_lay : NM kX11_lay 2 := ⟨(gt_in (i := 765) rfl rfl), (gt_in (i := 1) (by decide +kernel) rfl), ⟨by decide, by decide, by decide +kernel⟩, by decide⟩
theorem mu_X11_lay : MFu kX11_lay 2 := ⟨nm_X11_lay, (gt_in (i := 763) (by decide +kernel) rfl), by decide⟩
theorem mf_X11_lay : MFv kX11_lay 2 := ⟨nm_X11_lay, (gt_in (i := 763) (by decide +kernel) rfl), (gt_in (i := 764) (by decide +kernel) rfl)⟩
set_option maxRecDepth 100000 in
theorem nm_X11_swap : NM kX11_swap 1 := ⟨(gt_in (i := 769) rfl rfl), (gt_in (i := 1) (by decide +kernel) rfl), ⟨by decide, by decide, by decide +kernel⟩, by decide⟩
theorem mu_X11_swap : MFu kX11_swap 1 := ⟨nm_X11_swap, (gt_in (i := 767) (by decide +kernel) rfl), by decide⟩
theorem mf_X11_swap : MFv kX11_swap 1 := ⟨nm_X11_swap, (gt_in (i := 767) (by decide +kernel) rfl), (gt_in (i := 768) (by decide +kernel) rfl)⟩
set_option maxRecDepth 100000 in
theorem nm_X11_which : NM kX11_which 1 := ⟨(gt_in (i := 777) rfl rfl), (gt_in (i := 1) (by decide +kernel) rfl), ⟨by decide, by decide, by decide +kernel⟩, by decide⟩
theorem mu_X11_which : MFu kX11_which 1 := ⟨nm_X11_which, (gt_in (i := 775) (by decide +kernel) rfl), by decide⟩
theorem mf_X11_which : MFv kX11_which 1 := ⟨nm_X11_which, (gt_in (i := 775) (by decide +kernel) rfl), (gt_in (i := 776) (by decide +kernel) rfl)⟩
set_option maxRecDepth 100000 in
theorem nm_X11_judge : NM kX11_judge 1 := ⟨(gt_in (i := 781) rfl rfl), (gt_in (i := 1) (by decide +kernel) rfl), ⟨by decide, by decide, by decide +kernel⟩, by decide⟩
theorem mu_X11_judge : MFu kX11_judge 1 := ⟨nm_X11_judge, (gt_in (i := 779) (by decide +kernel) rfl), by decide⟩
theorem mf_X11_judge : MFv kX11_judge 1 := ⟨nm_X11_judge, (gt_in (i := 779) (by decide +kernel) rfl), (gt_in (i := 780) (by decide +kernel) rfl)⟩
set_option maxRecDepth 100000 in
theorem nm_X11_how : NM kX11_how 1 := ⟨(gt_in (i := 797) rfl rfl), (gt_in (i := 1) (by decide +kernel) rfl), ⟨by decide, by decide, by decide +kernel⟩, by decide⟩
theorem mu_X11_how : MFu kX11_how 1 := ⟨nm_X11_how, (gt_in (i := 795) (by decide +kernel) rfl), by decide⟩
theorem mf_X11_how : MFv kX11_how 1 := ⟨nm_X11_how, (gt_in (i := 795) (by decide +kernel) rfl), (gt_in (i := 796) (by decide +kernel) rfl)⟩
set_option maxRecDepth 100000 in
theorem nm_X11_kinds : NM kX11_kinds 3 := ⟨(gt_in (i := 801) rfl rfl), (gt_in (i := 1) (by decide +kernel) rfl), ⟨by decide, by decide, by decide +kernel⟩, by decide⟩
theorem mu_X11_kinds : MFu kX11_kinds 3 := ⟨nm_X11_kinds, (gt_in (i := 799) (by decide +kernel) rfl), by decide⟩
theorem mf_X11_kinds : MFv kX11_kinds 3 := ⟨nm_X11_kinds, (gt_in (i := 799) (by decide +kernel) rfl), (gt_in (i := 800) (by decide +kernel) rfl)⟩
set_option maxRecDepth 100000 in
theorem nm_X11_heats : NM kX11_heats 3 := ⟨(gt_in (i := 805) rfl rfl), (gt_in (i := 1) (by decide +kernel) rfl), ⟨by decide, by decide, by decide +kernel⟩, by decide⟩
theorem mu_X11_heats : MFu kX11_heats 3 := ⟨nm_X11_heats, (gt_in (i := 803) (by decide +kernel) rfl), by decide⟩
theorem mf_X11_heats : MFv kX11_heats 3 := ⟨nm_X11_heats, (gt_in (i := 803) (by decide +kernel) rfl), (gt_in (i := 804) (by decide +kernel) rfl)⟩
set_option maxRecDepth 100000 in
theorem nm_X11_turned : NM kX11_turned 1 := ⟨(gt_in (i := 809) rfl rfl), (gt_in (i := 1) (by decide +kernel) rfl), ⟨by decide, by decide, by decide +kernel⟩, by decide⟩
theorem mu_X11_turned : MFu kX11_turned 1 := ⟨nm_X11_turned, (gt_in (i := 807) (by decide +kernel) rfl), by decide⟩
theorem mf_X11_turned : MFv kX11_turned 1 := ⟨nm_X11_turned, (gt_in (i := 807) (by decide +kernel) rfl), (gt_in (i := 808) (by decide +kernel) rfl)⟩
set_option maxRecDepth 100000 in
theorem nm_X11_laws : NM kX11_laws 1 := ⟨(gt_in (i := 814) rfl rfl), (gt_in (i := 1) (by decide +kernel) rfl), ⟨by decide, by decide, by decide +kernel⟩, by decide⟩
theorem mu_X11_laws : MFu kX11_laws 1 := ⟨nm_X11_laws, (gt_in (i := 812) (by decide +kernel) rfl), by decide⟩
theorem mf_X11_laws : MFv kX11_laws 1 := ⟨nm_X11_laws, (gt_in (i := 812) (by decide +kernel) rfl), (gt_in (i := 813) (by decide +kernel) rfl)⟩
set_option maxRecDepth 100000 in
theorem nm_X11_film : NM kX11_film 2 := ⟨(gt_in (i := 818) rfl rfl), (gt_in (i := 1) (by decide +kernel) rfl), ⟨by decide, by decide, by decide +kernel⟩, by decide⟩
theorem mu_X11_film : MFu kX11_film 2 := ⟨nm_X11_film, (gt_in (i := 816) (by decide +kernel) rfl), by decide⟩
theorem mf_X11_film : MFv kX11_film 2 := ⟨nm_X11_film, (gt_in (i := 816) (by decide +kernel) rfl), (gt_in (i := 817) (by decide +kernel) rfl)⟩
set_option maxRecDepth 100000 in
theorem nm_X11_drawn : NM kX11_drawn 2 := ⟨(gt_in (i := 830) rfl rfl), (gt_in (i := 1) (by decide +kernel) rfl), ⟨by decide, by decide, by decide +kernel⟩, by decide⟩
theorem mu_X11_drawn : MFu kX11_drawn 2 := ⟨nm_X11_drawn, (gt_in (i := 828) (by decide +kernel) rfl), by decide⟩
theorem mf_X11_drawn : MFv kX11_drawn 2 := ⟨nm_X11_drawn, (gt_in (i := 828) (by decide +kernel) rfl), (gt_in (i := 829) (by decide +kernel) rfl)⟩
set_option maxRecDepth 100000 in
theorem nm_X11_odds : NM kX11_odds 4 := ⟨(gt_in (i := 842) rfl rfl), (gt_in (i := 1) (by decide +kernel) rfl), ⟨by decide, by decide, by decide +kernel⟩, by decide⟩
theorem mu_X11_odds : MFu kX11_odds 4 := ⟨nm_X11_odds, (gt_in (i := 840) (by decide +kernel) rfl), by decide⟩
theorem mf_X11_odds : MFv kX11_odds 4 := ⟨nm_X11_odds, (gt_in (i := 840) (by decide +kernel) rfl), (gt_in (i := 841) (by decide +kernel) rfl)⟩
set_option maxRecDepth 100000 in
theorem nm_X11_image : NM kX11_image 0 := ⟨(gt_in (i := 850) rfl rfl), (gt_in (i := 1) (by decide +kernel) rfl), ⟨by decide, by decide, by decide +kernel⟩, by decide⟩
theorem mu_X11_image : MFu kX11_image 0 := ⟨nm_X11_image, (gt_in (i := 848) (by decide +kernel) rfl), by decide⟩
theorem mf_X11_image : MFv kX11_image 0 := ⟨nm_X11_image, (gt_in (i := 848) (by decide +kernel) rfl), (gt_in (i := 849) (by decide +kernel) rfl)⟩
set_option maxRecDepth 100000 in
theorem nm_X11_back : NM kX11_back 0 := ⟨(gt_in (i := 854) rfl rfl), (gt_in (i := 1) (by decide +kernel) rfl), ⟨by decide, by decide, by decide +kernel⟩, by decide⟩
theorem mu_X11_back : MFu kX11_back 0 := ⟨nm_X11_back, (gt_in (i := 852) (by decide +kernel) rfl), by decide⟩
theorem mf_X11_back : MFv kX11_back 0 := ⟨nm_X11_back, (gt_in (i := 852) (by decide +kernel) rfl), (gt_in (i := 853) (by decide +kernel) rfl)⟩
set_option maxRecDepth 100000 in
theorem nm_X11_sheet : NM kX11_sheet 3 := ⟨(gt_in (i := 858) rfl rfl), (gt_in (i := 1) (by decide +kernel) rfl), ⟨by decide, by decide, by decide +kernel⟩, by decide⟩
theorem mu_X11_sheet : MFu kX11_sheet 3 := ⟨nm_X11_sheet, (gt_in (i := 856) (by decide +kernel) rfl), by decide⟩
theorem mf_X11_sheet : MFv kX11_sheet 3 := ⟨nm_X11_sheet, (gt_in (i := 856) (by decide +kernel) rfl), (gt_in (i := 857) (by decide +kernel) rfl)⟩
set_option maxRecDepth 100000 in
theorem nm_X11_cell : NM kX11_cell 3 := ⟨(gt_in (i := 862) rfl rfl), (gt_in (i := 1) (by decide +kernel) rfl), ⟨by decide, by decide, by decide +kernel⟩, by decide⟩
theorem mu_X11_cell : MFu kX11_cell 3 := ⟨nm_X11_cell, (gt_in (i := 860) (by decide +kernel) rfl), by decide⟩
theorem mf_X11_cell : MFv kX11_cell 3 := ⟨nm_X11_cell, (gt_in (i := 860) (by decide +kernel) rfl), (gt_in (i := 861) (by decide +kernel) rfl)⟩
set_option maxRecDepth 100000 in
theorem nm_X11_copy : NM kX11_copy 5 := ⟨(gt_in (i := 866) rfl rfl), (gt_in (i := 1) (by decide +kernel) rfl), ⟨by decide, by decide, by decide +kernel⟩, by decide⟩
theorem mu_X11_copy : MFu kX11_copy 5 := ⟨nm_X11_copy, (gt_in (i := 864) (by decide +kernel) rfl), by decide⟩
theorem mf_X11_copy : MFv kX11_copy 5 := ⟨nm_X11_copy, (gt_in (i := 864) (by decide +kernel) rfl), (gt_in (i := 865) (by decide +kernel) rfl)⟩
set_option maxRecDepth 100000 in
theorem nm_X11_cakesBy : NM kX11_cakesBy 4 := ⟨(gt_in (i := 871) rfl rfl), (gt_in (i := 1) (by decide +kernel) rfl), ⟨by decide, by decide, by decide +kernel⟩, by decide⟩
theorem mu_X11_cakesBy : MFu kX11_cakesBy 4 := ⟨nm_X11_cakesBy, (gt_in (i := 869) (by decide +kernel) rfl), by decide⟩
theorem mf_X11_cakesBy : MFv kX11_cakesBy 4 := ⟨nm_X11_cakesBy, (gt_in (i := 869) (by decide +kernel) rfl), (gt_in (i := 870) (by decide +kernel) rfl)⟩
set_option maxRecDepth 100000 in
theorem nm_X11_taken : NM kX11_taken 2 := ⟨(gt_in (i := 876) rfl rfl), (gt_in (i := 1) (by decide +kernel) rfl), ⟨by decide, by decide, by decide +kernel⟩, by decide⟩
theorem mu_X11_taken : MFu kX11_taken 2 := ⟨nm_X11_taken, (gt_in (i := 874) (by decide +kernel) rfl), by decide⟩
theorem mf_X11_taken : MFv kX11_taken 2 := ⟨nm_X11_taken, (gt_in (i := 874) (by decide +kernel) rfl), (gt_in (i := 875) (by decide +kernel) rfl)⟩
set_option maxRecDepth 100000 in
theorem nm_X11_within : NM kX11_within 3 := ⟨(gt_in (i := 460) rfl rfl), (gt_in (i := 1) (by decide +kernel) rfl), ⟨by decide, by decide, by decide +kernel⟩, by decide⟩
theorem mf_X11_within : MFs kX11_within 3 := ⟨nm_X11_within, (gt_in (i := 459) (by decide +kernel) rfl)⟩
set_option maxRecDepth 100000 in
theorem nm_X11_isByte : NM kX11_isByte 1 := ⟨(gt_in (i := 486) rfl rfl), (gt_in (i := 1) (by decide +kernel) rfl), ⟨by decide, by decide, by decide +kernel⟩, by decide⟩
theorem mf_X11_isByte : MFs kX11_isByte 1 := ⟨nm_X11_isByte, (gt_in (i := 485) (by decide +kernel) rfl)⟩
set_option maxRecDepth 100000 in
theorem nm_X11_isCake : NM kX11_isCake 1 := ⟨(gt_in (i := 502) rfl rfl), (gt_in (i := 1) (by decide +kernel) rfl), ⟨by decide, by decide, by decide +kernel⟩, by decide⟩
theorem mu_X11_isCake : MFu kX11_isCake 1 := ⟨nm_X11_isCake, (gt_in (i := 501) (by decide +kernel) rfl), by decide⟩
theorem mf_X11_isCake : MFv kX11_isCake 1 := ⟨nm_X11_isCake, (gt_in (i := 501) (by decide +kernel) rfl), (gt_sel (q := (⟨"HotCorner", "isCake", "(I)Z"⟩, 12)) (i := 21) (by decide +kernel))⟩
set_option maxRecDepth 100000 in
theorem nm_X11_isOf : NM kX11_isOf 2 := ⟨(gt_in (i := 879) rfl rfl), (gt_in (i := 1) (by decide +kernel) rfl), ⟨by decide, by decide, by decide +kernel⟩, by decide⟩
theorem mf_X11_isOf : MFs kX11_isOf 2 := ⟨nm_X11_isOf, (gt_in (i := 878) (by decide +kernel) rfl)⟩
set_option maxRecDepth 100000 in
theorem nm_X11_spotUnder : NM kX11_spotUnder 2 := ⟨(gt_in (i := 479) rfl rfl), (gt_in (i := 1) (by decide +kernel) rfl), ⟨by decide, by decide, by decide +kernel⟩, by decide⟩
theorem mf_X11_spotUnder : MFs kX11_spotUnder 2 := ⟨nm_X11_spotUnder, (gt_in (i := 478) (by decide +kernel) rfl)⟩
set_option maxRecDepth 100000 in
theorem nm_X11_commonDivisor : NM kX11_commonDivisor 2 := ⟨(gt_in (i := 845) rfl rfl), (gt_in (i := 1) (by decide +kernel) rfl), ⟨by decide, by decide, by decide +kernel⟩, by decide⟩
theorem mf_X11_commonDivisor : MFs kX11_commonDivisor 2 := ⟨nm_X11_commonDivisor, (gt_in (i := 844) (by decide +kernel) rfl)⟩
set_option maxRecDepth 100000 in
theorem nm_X11_imagine : NM kX11_imagine 0 := ⟨(gt_in (i := 698) rfl rfl), (gt_in (i := 1) (by decide +kernel) rfl), ⟨by decide, by decide, by decide +kernel⟩, by decide⟩
theorem mu_X11_imagine : MFu kX11_imagine 0 := ⟨nm_X11_imagine, (gt_in (i := 697) (by decide +kernel) rfl), by decide⟩
theorem mf_X11_imagine : MFv kX11_imagine 0 := ⟨nm_X11_imagine, (gt_in (i := 697) (by decide +kernel) rfl), (gt_sel (q := (⟨"HotCorner", "imagine", "()V"⟩, 12)) (i := 28) (by decide +kernel))⟩
set_option maxRecDepth 100000 in
theorem nm_X11_imagineDrawn : NM kX11_imagineDrawn 1 := ⟨(gt_in (i := 835) rfl rfl), (gt_in (i := 1) (by decide +kernel) rfl), ⟨by decide, by decide, by decide +kernel⟩, by decide⟩
theorem mu_X11_imagineDrawn : MFu kX11_imagineDrawn 1 := ⟨nm_X11_imagineDrawn, (gt_in (i := 834) (by decide +kernel) rfl), by decide⟩
theorem mf_X11_imagineDrawn : MFv kX11_imagineDrawn 1 := ⟨nm_X11_imagineDrawn, (gt_in (i := 834) (by decide +kernel) rfl), (gt_sel (q := (⟨"HotCorner", "imagineDrawn", "(I)V"⟩, 12)) (i := 37) (by decide +kernel))⟩
set_option maxRecDepth 100000 in
theorem nm_X11_startBaking : NM kX11_startBaking 1 := ⟨(gt_in (i := 506) rfl rfl), (gt_in (i := 1) (by decide +kernel) rfl), ⟨by decide, by decide, by decide +kernel⟩, by decide⟩
theorem mu_X11_startBaking : MFu kX11_startBaking 1 := ⟨nm_X11_startBaking, (gt_in (i := 505) (by decide +kernel) rfl), by decide⟩
theorem mf_X11_startBaking : MFv kX11_startBaking 1 := ⟨nm_X11_startBaking, (gt_in (i := 505) (by decide +kernel) rfl), (gt_sel (q := (⟨"HotCorner", "startBaking", "(LHotCorner$Oven;)V"⟩, 12)) (i := 22) (by decide +kernel))⟩
set_option maxRecDepth 100000 in
theorem nm_X11_bake : NM kX11_bake 2 := ⟨(gt_in (i := 594) rfl rfl), (gt_in (i := 1) (by decide +kernel) rfl), ⟨by decide, by decide, by decide +kernel⟩, by decide⟩
theorem mu_X11_bake : MFu kX11_bake 2 := ⟨nm_X11_bake, (gt_in (i := 593) (by decide +kernel) rfl), by decide⟩
theorem mf_X11_bake : MFv kX11_bake 2 := ⟨nm_X11_bake, (gt_in (i := 593) (by decide +kernel) rfl), (gt_sel (q := (⟨"HotCorner", "bake", "(LHotCorner$Oven;I)V"⟩, 12)) (i := 25) (by decide +kernel))⟩
set_option maxRecDepth 100000 in
theorem nm_X11_badnessOf : NM kX11_badnessOf 1 := ⟨(gt_in (i := 717) rfl rfl), (gt_in (i := 1) (by decide +kernel) rfl), ⟨by decide, by decide, by decide +kernel⟩, by decide⟩
theorem mu_X11_badnessOf : MFu kX11_badnessOf 1 := ⟨nm_X11_badnessOf, (gt_in (i := 716) (by decide +kernel) rfl), by decide⟩
theorem mf_X11_badnessOf : MFv kX11_badnessOf 1 := ⟨nm_X11_badnessOf, (gt_in (i := 716) (by decide +kernel) rfl), (gt_sel (q := (⟨"HotCorner", "badnessOf", "(LHotCorner$Oven;)I"⟩, 12)) (i := 31) (by decide +kernel))⟩
set_option maxRecDepth 100000 in
theorem nm_X11_apartOf : NM kX11_apartOf 1 := ⟨(gt_in (i := 713) rfl rfl), (gt_in (i := 1) (by decide +kernel) rfl), ⟨by decide, by decide, by decide +kernel⟩, by decide⟩
theorem mu_X11_apartOf : MFu kX11_apartOf 1 := ⟨nm_X11_apartOf, (gt_in (i := 712) (by decide +kernel) rfl), by decide⟩
theorem mf_X11_apartOf : MFv kX11_apartOf 1 := ⟨nm_X11_apartOf, (gt_in (i := 712) (by decide +kernel) rfl), (gt_sel (q := (⟨"HotCorner", "apartOf", "(LHotCorner$Oven;)I"⟩, 12)) (i := 30) (by decide +kernel))⟩
set_option maxRecDepth 100000 in
theorem nm_X11_weighNone : NM kX11_weighNone 0 := ⟨(gt_in (i := 709) rfl rfl), (gt_in (i := 1) (by decide +kernel) rfl), ⟨by decide, by decide, by decide +kernel⟩, by decide⟩
theorem mu_X11_weighNone : MFu kX11_weighNone 0 := ⟨nm_X11_weighNone, (gt_in (i := 708) (by decide +kernel) rfl), by decide⟩
theorem mf_X11_weighNone : MFv kX11_weighNone 0 := ⟨nm_X11_weighNone, (gt_in (i := 708) (by decide +kernel) rfl), (gt_sel (q := (⟨"HotCorner", "weighNone", "()V"⟩, 12)) (i := 29) (by decide +kernel))⟩
set_option maxRecDepth 100000 in
theorem nm_X11_weigh : NM kX11_weigh 2 := ⟨(gt_in (i := 721) rfl rfl), (gt_in (i := 1) (by decide +kernel) rfl), ⟨by decide, by decide, by decide +kernel⟩, by decide⟩
theorem mu_X11_weigh : MFu kX11_weigh 2 := ⟨nm_X11_weigh, (gt_in (i := 720) (by decide +kernel) rfl), by decide⟩
theorem mf_X11_weigh : MFv kX11_weigh 2 := ⟨nm_X11_weigh, (gt_in (i := 720) (by decide +kernel) rfl), (gt_sel (q := (⟨"HotCorner", "weigh", "(II)V"⟩, 12)) (i := 32) (by decide +kernel))⟩
set_option maxRecDepth 100000 in
theorem nm_X11_lightest : NM kX11_lightest 1 := ⟨(gt_in (i := 725) rfl rfl), (gt_in (i := 1) (by decide +kernel) rfl), ⟨by decide, by decide, by decide +kernel⟩, by decide⟩
theorem mu_X11_lightest : MFu kX11_lightest 1 := ⟨nm_X11_lightest, (gt_in (i := 724) (by decide +kernel) rfl), by decide⟩
theorem mf_X11_lightest : MFv kX11_lightest 1 := ⟨nm_X11_lightest, (gt_in (i := 724) (by decide +kernel) rfl), (gt_sel (q := (⟨"HotCorner", "lightest", "(I)I"⟩, 12)) (i := 33) (by decide +kernel))⟩
set_option maxRecDepth 100000 in
theorem nm_X11_refusal : NM kX11_refusal 1 := ⟨(gt_in (i := 785) rfl rfl), (gt_in (i := 1) (by decide +kernel) rfl), ⟨by decide, by decide, by decide +kernel⟩, by decide⟩
theorem mu_X11_refusal : MFu kX11_refusal 1 := ⟨nm_X11_refusal, (gt_in (i := 784) (by decide +kernel) rfl), by decide⟩
theorem mf_X11_refusal : MFv kX11_refusal 1 := ⟨nm_X11_refusal, (gt_in (i := 784) (by decide +kernel) rfl), (gt_sel (q := (⟨"HotCorner", "refusal", "(I)I"⟩, 12)) (i := 35) (by decide +kernel))⟩
set_option maxRecDepth 100000 in
theorem nm_X11_firstOtherwise : NM kX11_firstOtherwise 2 := ⟨(gt_in (i := 789) rfl rfl), (gt_in (i := 1) (by decide +kernel) rfl), ⟨by decide, by decide, by decide +kernel⟩, by decide⟩
theorem mu_X11_firstOtherwise : MFu kX11_firstOtherwise 2 := ⟨nm_X11_firstOtherwise, (gt_in (i := 788) (by decide +kernel) rfl), by decide⟩
theorem mf_X11_firstOtherwise : MFv kX11_firstOtherwise 2 := ⟨nm_X11_firstOtherwise, (gt_in (i := 788) (by decide +kernel) rfl), (gt_sel (q := (⟨"HotCorner", "firstOtherwise", "(ILHotCorner$Oven;)I"⟩, 12)) (i := 36) (by decide +kernel))⟩
set_option maxRecDepth 100000 in
theorem nm_X12_init : NM kX12_init 0 := ⟨(gt_in (i := 889) rfl rfl), (gt_in (i := 18) (by decide +kernel) rfl), ⟨by decide, by decide, by decide +kernel⟩, by decide⟩
theorem mf_X12_init : MFi kX12_init 0 := ⟨nm_X12_init, (gt_in (i := 888) (by decide +kernel) rfl), rfl, rfl⟩
set_option maxRecDepth 100000 in
theorem nm_X12_in : NM kX12_in 3 := ⟨(gt_in (i := 901) rfl rfl), (gt_in (i := 18) (by decide +kernel) rfl), ⟨by decide, by decide, by decide +kernel⟩, by decide⟩
theorem mf_X12_in : MFs kX12_in 3 := ⟨nm_X12_in, (gt_in (i := 900) (by decide +kernel) rfl)⟩
set_option maxRecDepth 100000 in
theorem nm_X12_within : NM kX12_within 3 := ⟨(gt_in (i := 1129) rfl rfl), (gt_in (i := 18) (by decide +kernel) rfl), ⟨by decide, by decide, by decide +kernel⟩, by decide⟩
theorem mf_X12_within : MFs kX12_within 3 := ⟨nm_X12_within, (gt_in (i := 1128) (by decide +kernel) rfl)⟩
set_option maxRecDepth 100000 in
theorem nm_X12_isCake : NM kX12_isCake 1 := ⟨(gt_in (i := 1115) rfl rfl), (gt_in (i := 18) (by decide +kernel) rfl), ⟨by decide, by decide, by decide +kernel⟩, by decide⟩
theorem mu_X12_isCake : MFu kX12_isCake 1 := ⟨nm_X12_isCake, (gt_in (i := 1114) (by decide +kernel) rfl), by decide⟩
theorem mf_X12_isCake : MFv kX12_isCake 1 := ⟨nm_X12_isCake, (gt_in (i := 1114) (by decide +kernel) rfl), (gt_sel (q := (⟨"HotCornerModel", "isCake", "(I)Z"⟩, 45)) (i := 47) (by decide +kernel))⟩
set_option maxRecDepth 100000 in
theorem nm_X12_isSpot : NM kX12_isSpot 1 := ⟨(gt_in (i := 1084) rfl rfl), (gt_in (i := 18) (by decide +kernel) rfl), ⟨by decide, by decide, by decide +kernel⟩, by decide⟩
theorem mf_X12_isSpot : MFs kX12_isSpot 1 := ⟨nm_X12_isSpot, (gt_in (i := 1083) (by decide +kernel) rfl)⟩
set_option maxRecDepth 100000 in
theorem nm_X12_count : NM kX12_count 1 := ⟨(gt_in (i := 1077) rfl rfl), (gt_in (i := 18) (by decide +kernel) rfl), ⟨by decide, by decide, by decide +kernel⟩, by decide⟩
theorem mu_X12_count : MFu kX12_count 1 := ⟨nm_X12_count, (gt_in (i := 1075) (by decide +kernel) rfl), by decide⟩
theorem mf_X12_count : MFv kX12_count 1 := ⟨nm_X12_count, (gt_in (i := 1075) (by decide +kernel) rfl), (gt_in (i := 1076) (by decide +kernel) rfl)⟩
set_option maxRecDepth 100000 in
theorem nm_X12_set : NM kX12_set 3 := ⟨(gt_in (i := 1081) rfl rfl), (gt_in (i := 18) (by decide +kernel) rfl), ⟨by decide, by decide, by decide +kernel⟩, by decide⟩
theorem mu_X12_set : MFu kX12_set 3 := ⟨nm_X12_set, (gt_in (i := 1079) (by decide +kernel) rfl), by decide⟩
theorem mf_X12_set : MFv kX12_set 3 := ⟨nm_X12_set, (gt_in (i := 1079) (by decide +kernel) rfl), (gt_in (i := 1080) (by decide +kernel) rfl)⟩
set_option maxRecDepth 100000 in
theorem nm_X12_hot : NM kX12_hot 1 := ⟨(gt_in (i := 1088) rfl rfl), (gt_in (i := 18) (by decide +kernel) rfl), ⟨by decide, by decide, by decide +kernel⟩, by decide⟩
theorem mu_X12_hot : MFu kX12_hot 1 := ⟨nm_X12_hot, (gt_in (i := 1086) (by decide +kernel) rfl), by decide⟩
theorem mf_X12_hot : MFv kX12_hot 1 := ⟨nm_X12_hot, (gt_in (i := 1086) (by decide +kernel) rfl), (gt_in (i := 1087) (by decide +kernel) rfl)⟩
set_option maxRecDepth 100000 in
theorem nm_X12_over : NM kX12_over 2 := ⟨(gt_in (i := 1095) rfl rfl), (gt_in (i := 18) (by decide +kernel) rfl), ⟨by decide, by decide, by decide +kernel⟩, by decide⟩
theorem mf_X12_over : MFs kX12_over 2 := ⟨nm_X12_over, (gt_in (i := 1094) (by decide +kernel) rfl)⟩
set_option maxRecDepth 100000 in
theorem nm_X12_spot : NM kX12_spot 2 := ⟨(gt_in (i := 1092) rfl rfl), (gt_in (i := 18) (by decide +kernel) rfl), ⟨by decide, by decide, by decide +kernel⟩, by decide⟩
theorem mu_X12_spot : MFu kX12_spot 2 := ⟨nm_X12_spot, (gt_in (i := 1090) (by decide +kernel) rfl), by decide⟩
theorem mf_X12_spot : MFv kX12_spot 2 := ⟨nm_X12_spot, (gt_in (i := 1090) (by decide +kernel) rfl), (gt_in (i := 1091) (by decide +kernel) rfl)⟩
set_option maxRecDepth 100000 in
theorem nm_X12_isByte : NM kX12_isByte 1 := ⟨(gt_in (i := 1102) rfl rfl), (gt_in (i := 18) (by decide +kernel) rfl), ⟨by decide, by decide, by decide +kernel⟩, by decide⟩
theorem mf_X12_isByte : MFs kX12_isByte 1 := ⟨nm_X12_isByte, (gt_in (i := 1101) (by decide +kernel) rfl)⟩
set_option maxRecDepth 100000 in
theorem nm_X12_feed : NM kX12_feed 6 := ⟨(gt_in (i := 1099) rfl rfl), (gt_in (i := 18) (by decide +kernel) rfl), ⟨by decide, by decide, by decide +kernel⟩, by decide⟩
theorem mu_X12_feed : MFu kX12_feed 6 := ⟨nm_X12_feed, (gt_in (i := 1097) (by decide +kernel) rfl), by decide⟩
theorem mf_X12_feed : MFv kX12_feed 6 := ⟨nm_X12_feed, (gt_in (i := 1097) (by decide +kernel) rfl), (gt_in (i := 1098) (by decide +kernel) rfl)⟩
set_option maxRecDepth 100000 in
theorem nm_X12_wordFrom : NM kX12_wordFrom 2 := ⟨(gt_in (i := 905) rfl rfl), (gt_in (i := 18) (by decide +kernel) rfl), ⟨by decide, by decide, by decide +kernel⟩, by decide⟩
theorem mu_X12_wordFrom : MFu kX12_wordFrom 2 := ⟨nm_X12_wordFrom, (gt_in (i := 904) (by decide +kernel) rfl), by decide⟩
theorem mf_X12_wordFrom : MFv kX12_wordFrom 2 := ⟨nm_X12_wordFrom, (gt_in (i := 904) (by decide +kernel) rfl), (gt_sel (q := (⟨"HotCornerModel", "wordFrom", "(II)I"⟩, 45)) (i := 39) (by decide +kernel))⟩
set_option maxRecDepth 100000 in
theorem nm_X12_next : NM kX12_next 0 := ⟨(gt_in (i := 898) rfl rfl), (gt_in (i := 18) (by decide +kernel) rfl), ⟨by decide, by decide, by decide +kernel⟩, by decide⟩
theorem mu_X12_next : MFu kX12_next 0 := ⟨nm_X12_next, (gt_in (i := 897) (by decide +kernel) rfl), by decide⟩
theorem mf_X12_next : MFv kX12_next 0 := ⟨nm_X12_next, (gt_in (i := 897) (by decide +kernel) rfl), (gt_sel (q := (⟨"HotCornerModel", "next", "()V"⟩, 45)) (i := 38) (by decide +kernel))⟩
set_option maxRecDepth 100000 in
theorem nm_X12_rank : NM kX12_rank 1 := ⟨(gt_in (i := 921) rfl rfl), (gt_in (i := 18) (by decide +kernel) rfl), ⟨by decide, by decide, by decide +kernel⟩, by decide⟩
theorem mf_X12_rank : MFs kX12_rank 1 := ⟨nm_X12_rank, (gt_in (i := 920) (by decide +kernel) rfl)⟩
set_option maxRecDepth 100000 in
theorem nm_X12_puts : NM kX12_puts 1 := ⟨(gt_in (i := 914) rfl rfl), (gt_in (i := 18) (by decide +kernel) rfl), ⟨by decide, by decide, by decide +kernel⟩, by decide⟩
theorem mu_X12_puts : MFu kX12_puts 1 := ⟨nm_X12_puts, (gt_in (i := 913) (by decide +kernel) rfl), by decide⟩
theorem mf_X12_puts : MFv kX12_puts 1 := ⟨nm_X12_puts, (gt_in (i := 913) (by decide +kernel) rfl), (gt_sel (q := (⟨"HotCornerModel", "puts", "(I)V"⟩, 45)) (i := 41) (by decide +kernel))⟩
set_option maxRecDepth 100000 in
theorem nm_X12_unwinds : NM kX12_unwinds 1 := ⟨(gt_in (i := 918) rfl rfl), (gt_in (i := 18) (by decide +kernel) rfl), ⟨by decide, by decide, by decide +kernel⟩, by decide⟩
theorem mu_X12_unwinds : MFu kX12_unwinds 1 := ⟨nm_X12_unwinds, (gt_in (i := 917) (by decide +kernel) rfl), by decide⟩
theorem mf_X12_unwinds : MFv kX12_unwinds 1 := ⟨nm_X12_unwinds, (gt_in (i := 917) (by decide +kernel) rfl), (gt_sel (q := (⟨"HotCornerModel", "unwinds", "(I)V"⟩, 45)) (i := 42) (by decide +kernel))⟩
set_option maxRecDepth 100000 in
theorem nm_X12_holds : NM kX12_holds 1 := ⟨(gt_in (i := 929) rfl rfl), (gt_in (i := 18) (by decide +kernel) rfl), ⟨by decide, by decide, by decide +kernel⟩, by decide⟩
theorem mu_X12_holds : MFu kX12_holds 1 := ⟨nm_X12_holds, (gt_in (i := 928) (by decide +kernel) rfl), by decide⟩
theorem mf_X12_holds : MFv kX12_holds 1 := ⟨nm_X12_holds, (gt_in (i := 928) (by decide +kernel) rfl), (gt_sel (q := (⟨"HotCornerModel", "holds", "(I)V"⟩, 45)) (i := 44) (by decide +kernel))⟩
set_option maxRecDepth 100000 in
theorem nm_X12_opensOne : NM kX12_opensOne 1 := ⟨(gt_in (i := 925) rfl rfl), (gt_in (i := 18) (by decide +kernel) rfl), ⟨by decide, by decide, by decide +kernel⟩, by decide⟩
theorem mu_X12_opensOne : MFu kX12_opensOne 1 := ⟨nm_X12_opensOne, (gt_in (i := 924) (by decide +kernel) rfl), by decide⟩
theorem mf_X12_opensOne : MFv kX12_opensOne 1 := ⟨nm_X12_opensOne, (gt_in (i := 924) (by decide +kernel) rfl), (gt_sel (q := (⟨"HotCornerModel", "opensOne", "(I)Z"⟩, 45)) (i := 43) (by decide +kernel))⟩
set_option maxRecDepth 100000 in
theorem nm_X12_between : NM kX12_between 1 := ⟨(gt_in (i := 937) rfl rfl), (gt_in (i := 18) (by decide +kernel) rfl), ⟨by decide, by decide, by decide +kernel⟩, by decide⟩
theorem mu_X12_between : MFu kX12_between 1 := ⟨nm_X12_between, (gt_in (i := 936) (by decide +kernel) rfl), by decide⟩
theorem mf_X12_between : MFv kX12_between 1 := ⟨nm_X12_between, (gt_in (i := 936) (by decide +kernel) rfl), (gt_sel (q := (⟨"HotCornerModel", "between", "(I)Z"⟩, 45)) (i := 46) (by decide +kernel))⟩
set_option maxRecDepth 100000 in
theorem nm_X12_signOf : NM kX12_signOf 0 := ⟨(gt_in (i := 933) rfl rfl), (gt_in (i := 18) (by decide +kernel) rfl), ⟨by decide, by decide, by decide +kernel⟩, by decide⟩
theorem mu_X12_signOf : MFu kX12_signOf 0 := ⟨nm_X12_signOf, (gt_in (i := 932) (by decide +kernel) rfl), by decide⟩
theorem mf_X12_signOf : MFv kX12_signOf 0 := ⟨nm_X12_signOf, (gt_in (i := 932) (by decide +kernel) rfl), (gt_sel (q := (⟨"HotCornerModel", "signOf", "()I"⟩, 45)) (i := 45) (by decide +kernel))⟩
set_option maxRecDepth 100000 in
theorem nm_X12_eRead : NM kX12_eRead 0 := ⟨(gt_in (i := 909) rfl rfl), (gt_in (i := 18) (by decide +kernel) rfl), ⟨by decide, by decide, by decide +kernel⟩, by decide⟩
theorem mu_X12_eRead : MFu kX12_eRead 0 := ⟨nm_X12_eRead, (gt_in (i := 908) (by decide +kernel) rfl), by decide⟩
theorem mf_X12_eRead : MFv kX12_eRead 0 := ⟨nm_X12_eRead, (gt_in (i := 908) (by decide +kernel) rfl), (gt_sel (q := (⟨"HotCornerModel", "eRead", "()Z"⟩, 45)) (i := 40) (by decide +kernel))⟩
set_option maxRecDepth 100000 in
theorem nm_X12_text : NM kX12_text 0 := ⟨(gt_in (i := 894) rfl rfl), (gt_in (i := 18) (by decide +kernel) rfl), ⟨by decide, by decide, by decide +kernel⟩, by decide⟩
theorem mu_X12_text : MFu kX12_text 0 := ⟨nm_X12_text, (gt_in (i := 892) (by decide +kernel) rfl), by decide⟩
theorem mf_X12_text : MFv kX12_text 0 := ⟨nm_X12_text, (gt_in (i := 892) (by decide +kernel) rfl), (gt_in (i := 893) (by decide +kernel) rfl)⟩
set_option maxRecDepth 100000 in
theorem nm_X12_two : NM kX12_two 3 := ⟨(gt_in (i := 1126) rfl rfl), (gt_in (i := 18) (by decide +kernel) rfl), ⟨by decide, by decide, by decide +kernel⟩, by decide⟩
theorem mf_X12_two : MFs kX12_two 3 := ⟨nm_X12_two, (gt_in (i := 1125) (by decide +kernel) rfl)⟩
set_option maxRecDepth 100000 in
theorem nm_X12_says : NM kX12_says 1 := ⟨(gt_in (i := 1123) rfl rfl), (gt_in (i := 18) (by decide +kernel) rfl), ⟨by decide, by decide, by decide +kernel⟩, by decide⟩
theorem mu_X12_says : MFu kX12_says 1 := ⟨nm_X12_says, (gt_in (i := 1122) (by decide +kernel) rfl), by decide⟩
theorem mf_X12_says : MFv kX12_says 1 := ⟨nm_X12_says, (gt_in (i := 1122) (by decide +kernel) rfl), (gt_sel (q := (⟨"HotCornerModel", "says", "(I)I"⟩, 45)) (i := 49) (by decide +kernel))⟩
set_option maxRecDepth 100000 in
theorem nm_X12_force : NM kX12_force 1 := ⟨(gt_in (i := 1107) rfl rfl), (gt_in (i := 18) (by decide +kernel) rfl), ⟨by decide, by decide, by decide +kernel⟩, by decide⟩
theorem mu_X12_force : MFu kX12_force 1 := ⟨nm_X12_force, (gt_in (i := 1105) (by decide +kernel) rfl), by decide⟩
theorem mf_X12_force : MFv kX12_force 1 := ⟨nm_X12_force, (gt_in (i := 1105) (by decide +kernel) rfl), (gt_in (i := 1106) (by decide +kernel) rfl)⟩
set_option maxRecDepth 100000 in
theorem nm_X12_asksOf : NM kX12_asksOf 6 := ⟨(gt_in (i := 1119) rfl rfl), (gt_in (i := 18) (by decide +kernel) rfl), ⟨by decide, by decide, by decide +kernel⟩, by decide⟩
theorem mu_X12_asksOf : MFu kX12_asksOf 6 := ⟨nm_X12_asksOf, (gt_in (i := 1118) (by decide +kernel) rfl), by decide⟩
theorem mf_X12_asksOf : MFv kX12_asksOf 6 := ⟨nm_X12_asksOf, (gt_in (i := 1118) (by decide +kernel) rfl), (gt_sel (q := (⟨"HotCornerModel", "asksOf", "(IIIIII)I"⟩, 45)) (i := 48) (by decide +kernel))⟩
set_option maxRecDepth 100000 in
theorem nm_X12_asks : NM kX12_asks 4 := ⟨(gt_in (i := 1111) rfl rfl), (gt_in (i := 18) (by decide +kernel) rfl), ⟨by decide, by decide, by decide +kernel⟩, by decide⟩
theorem mu_X12_asks : MFu kX12_asks 4 := ⟨nm_X12_asks, (gt_in (i := 1109) (by decide +kernel) rfl), by decide⟩
theorem mf_X12_asks : MFv kX12_asks 4 := ⟨nm_X12_asks, (gt_in (i := 1109) (by decide +kernel) rfl), (gt_in (i := 1110) (by decide +kernel) rfl)⟩
set_option maxRecDepth 100000 in
theorem nm_X12_whoOn : NM kX12_whoOn 1 := ⟨(gt_in (i := 1137) rfl rfl), (gt_in (i := 18) (by decide +kernel) rfl), ⟨by decide, by decide, by decide +kernel⟩, by decide⟩
theorem mu_X12_whoOn : MFu kX12_whoOn 1 := ⟨nm_X12_whoOn, (gt_in (i := 1136) (by decide +kernel) rfl), by decide⟩
theorem mf_X12_whoOn : MFv kX12_whoOn 1 := ⟨nm_X12_whoOn, (gt_in (i := 1136) (by decide +kernel) rfl), (gt_sel (q := (⟨"HotCornerModel", "whoOn", "(I)I"⟩, 45)) (i := 50) (by decide +kernel))⟩
set_option maxRecDepth 100000 in
theorem nm_X12_cake : NM kX12_cake 3 := ⟨(gt_in (i := 1133) rfl rfl), (gt_in (i := 18) (by decide +kernel) rfl), ⟨by decide, by decide, by decide +kernel⟩, by decide⟩
theorem mu_X12_cake : MFu kX12_cake 3 := ⟨nm_X12_cake, (gt_in (i := 1131) (by decide +kernel) rfl), by decide⟩
theorem mf_X12_cake : MFv kX12_cake 3 := ⟨nm_X12_cake, (gt_in (i := 1131) (by decide +kernel) rfl), (gt_in (i := 1132) (by decide +kernel) rfl)⟩
set_option maxRecDepth 100000 in
theorem nm_X12_move : NM kX12_move 2 := ⟨(gt_in (i := 1141) rfl rfl), (gt_in (i := 18) (by decide +kernel) rfl), ⟨by decide, by decide, by decide +kernel⟩, by decide⟩
theorem mu_X12_move : MFu kX12_move 2 := ⟨nm_X12_move, (gt_in (i := 1139) (by decide +kernel) rfl), by decide⟩
theorem mf_X12_move : MFv kX12_move 2 := ⟨nm_X12_move, (gt_in (i := 1139) (by decide +kernel) rfl), (gt_in (i := 1140) (by decide +kernel) rfl)⟩
set_option maxRecDepth 100000 in
theorem nm_X12_beginsAt : NM kX12_beginsAt 1 := ⟨(gt_in (i := 1149) rfl rfl), (gt_in (i := 18) (by decide +kernel) rfl), ⟨by decide, by decide, by decide +kernel⟩, by decide⟩
theorem mu_X12_beginsAt : MFu kX12_beginsAt 1 := ⟨nm_X12_beginsAt, (gt_in (i := 1148) (by decide +kernel) rfl), by decide⟩
theorem mf_X12_beginsAt : MFv kX12_beginsAt 1 := ⟨nm_X12_beginsAt, (gt_in (i := 1148) (by decide +kernel) rfl), (gt_sel (q := (⟨"HotCornerModel", "beginsAt", "(I)I"⟩, 45)) (i := 51) (by decide +kernel))⟩
set_option maxRecDepth 100000 in
theorem nm_X12_told : NM kX12_told 2 := ⟨(gt_in (i := 1145) rfl rfl), (gt_in (i := 18) (by decide +kernel) rfl), ⟨by decide, by decide, by decide +kernel⟩, by decide⟩
theorem mu_X12_told : MFu kX12_told 2 := ⟨nm_X12_told, (gt_in (i := 1143) (by decide +kernel) rfl), by decide⟩
theorem mf_X12_told : MFv kX12_told 2 := ⟨nm_X12_told, (gt_in (i := 1143) (by decide +kernel) rfl), (gt_in (i := 1144) (by decide +kernel) rfl)⟩
set_option maxRecDepth 100000 in
theorem nm_X12_open : NM kX12_open 2 := ⟨(gt_in (i := 1153) rfl rfl), (gt_in (i := 18) (by decide +kernel) rfl), ⟨by decide, by decide, by decide +kernel⟩, by decide⟩
theorem mu_X12_open : MFu kX12_open 2 := ⟨nm_X12_open, (gt_in (i := 1151) (by decide +kernel) rfl), by decide⟩
theorem mf_X12_open : MFv kX12_open 2 := ⟨nm_X12_open, (gt_in (i := 1151) (by decide +kernel) rfl), (gt_in (i := 1152) (by decide +kernel) rfl)⟩
set_option maxRecDepth 100000 in
theorem nm_X12_opening : NM kX12_opening 2 := ⟨(gt_in (i := 1157) rfl rfl), (gt_in (i := 18) (by decide +kernel) rfl), ⟨by decide, by decide, by decide +kernel⟩, by decide⟩
theorem mu_X12_opening : MFu kX12_opening 2 := ⟨nm_X12_opening, (gt_in (i := 1155) (by decide +kernel) rfl), by decide⟩
theorem mf_X12_opening : MFv kX12_opening 2 := ⟨nm_X12_opening, (gt_in (i := 1155) (by decide +kernel) rfl), (gt_in (i := 1156) (by decide +kernel) rfl)⟩
set_option maxRecDepth 100000 in
theorem nm_X12_shut : NM kX12_shut 0 := ⟨(gt_in (i := 1161) rfl rfl), (gt_in (i := 18) (by decide +kernel) rfl), ⟨by decide, by decide, by decide +kernel⟩, by decide⟩
theorem mu_X12_shut : MFu kX12_shut 0 := ⟨nm_X12_shut, (gt_in (i := 1159) (by decide +kernel) rfl), by decide⟩
theorem mf_X12_shut : MFv kX12_shut 0 := ⟨nm_X12_shut, (gt_in (i := 1159) (by decide +kernel) rfl), (gt_in (i := 1160) (by decide +kernel) rfl)⟩
set_option maxRecDepth 100000 in
theorem nm_X12_browner : NM kX12_browner 3 := ⟨(gt_in (i := 1189) rfl rfl), (gt_in (i := 18) (by decide +kernel) rfl), ⟨by decide, by decide, by decide +kernel⟩, by decide⟩
theorem mu_X12_browner : MFu kX12_browner 3 := ⟨nm_X12_browner, (gt_in (i := 1188) (by decide +kernel) rfl), by decide⟩
theorem mf_X12_browner : MFv kX12_browner 3 := ⟨nm_X12_browner, (gt_in (i := 1188) (by decide +kernel) rfl), (gt_sel (q := (⟨"HotCornerModel", "browner", "(III)I"⟩, 45)) (i := 57) (by decide +kernel))⟩
set_option maxRecDepth 100000 in
theorem nm_X12_turnedBy : NM kX12_turnedBy 1 := ⟨(gt_in (i := 1185) rfl rfl), (gt_in (i := 18) (by decide +kernel) rfl), ⟨by decide, by decide, by decide +kernel⟩, by decide⟩
theorem mu_X12_turnedBy : MFu kX12_turnedBy 1 := ⟨nm_X12_turnedBy, (gt_in (i := 1184) (by decide +kernel) rfl), by decide⟩
theorem mf_X12_turnedBy : MFv kX12_turnedBy 1 := ⟨nm_X12_turnedBy, (gt_in (i := 1184) (by decide +kernel) rfl), (gt_sel (q := (⟨"HotCornerModel", "turnedBy", "(I)I"⟩, 45)) (i := 56) (by decide +kernel))⟩
set_option maxRecDepth 100000 in
theorem nm_X12_lastBy : NM kX12_lastBy 1 := ⟨(gt_in (i := 1177) rfl rfl), (gt_in (i := 18) (by decide +kernel) rfl), ⟨by decide, by decide, by decide +kernel⟩, by decide⟩
theorem mu_X12_lastBy : MFu kX12_lastBy 1 := ⟨nm_X12_lastBy, (gt_in (i := 1176) (by decide +kernel) rfl), by decide⟩
theorem mf_X12_lastBy : MFv kX12_lastBy 1 := ⟨nm_X12_lastBy, (gt_in (i := 1176) (by decide +kernel) rfl), (gt_sel (q := (⟨"HotCornerModel", "lastBy", "(I)I"⟩, 45)) (i := 54) (by decide +kernel))⟩
set_option maxRecDepth 100000 in
theorem nm_X12_heatFor : NM kX12_heatFor 4 := ⟨(gt_in (i := 1181) rfl rfl), (gt_in (i := 18) (by decide +kernel) rfl), ⟨by decide, by decide, by decide +kernel⟩, by decide⟩
theorem mu_X12_heatFor : MFu kX12_heatFor 4 := ⟨nm_X12_heatFor, (gt_in (i := 1180) (by decide +kernel) rfl), by decide⟩
theorem mf_X12_heatFor : MFv kX12_heatFor 4 := ⟨nm_X12_heatFor, (gt_in (i := 1180) (by decide +kernel) rfl), (gt_sel (q := (⟨"HotCornerModel", "heatFor", "(IIII)I"⟩, 45)) (i := 55) (by decide +kernel))⟩
set_option maxRecDepth 100000 in
theorem nm_X12_bakesOne : NM kX12_bakesOne 1 := ⟨(gt_in (i := 1173) rfl rfl), (gt_in (i := 18) (by decide +kernel) rfl), ⟨by decide, by decide, by decide +kernel⟩, by decide⟩
theorem mu_X12_bakesOne : MFu kX12_bakesOne 1 := ⟨nm_X12_bakesOne, (gt_in (i := 1172) (by decide +kernel) rfl), by decide⟩
theorem mf_X12_bakesOne : MFv kX12_bakesOne 1 := ⟨nm_X12_bakesOne, (gt_in (i := 1172) (by decide +kernel) rfl), (gt_sel (q := (⟨"HotCornerModel", "bakesOne", "(I)V"⟩, 45)) (i := 53) (by decide +kernel))⟩
set_option maxRecDepth 100000 in
theorem nm_X12_bakes : NM kX12_bakes 0 := ⟨(gt_in (i := 1169) rfl rfl), (gt_in (i := 18) (by decide +kernel) rfl), ⟨by decide, by decide, by decide +kernel⟩, by decide⟩
theorem mu_X12_bakes : MFu kX12_bakes 0 := ⟨nm_X12_bakes, (gt_in (i := 1168) (by decide +kernel) rfl), by decide⟩
theorem mf_X12_bakes : MFv kX12_bakes 0 := ⟨nm_X12_bakes, (gt_in (i := 1168) (by decide +kernel) rfl), (gt_sel (q := (⟨"HotCornerModel", "bakes", "()V"⟩, 45)) (i := 52) (by decide +kernel))⟩
set_option maxRecDepth 100000 in
theorem nm_X12_endOf : NM kX12_endOf 1 := ⟨(gt_in (i := 1201) rfl rfl), (gt_in (i := 18) (by decide +kernel) rfl), ⟨by decide, by decide, by decide +kernel⟩, by decide⟩
theorem mu_X12_endOf : MFu kX12_endOf 1 := ⟨nm_X12_endOf, (gt_in (i := 1200) (by decide +kernel) rfl), by decide⟩
theorem mf_X12_endOf : MFv kX12_endOf 1 := ⟨nm_X12_endOf, (gt_in (i := 1200) (by decide +kernel) rfl), (gt_sel (q := (⟨"HotCornerModel", "endOf", "(I)I"⟩, 45)) (i := 59) (by decide +kernel))⟩
set_option maxRecDepth 100000 in
theorem nm_X12_offBy : NM kX12_offBy 2 := ⟨(gt_in (i := 1209) rfl rfl), (gt_in (i := 18) (by decide +kernel) rfl), ⟨by decide, by decide, by decide +kernel⟩, by decide⟩
theorem mu_X12_offBy : MFu kX12_offBy 2 := ⟨nm_X12_offBy, (gt_in (i := 1208) (by decide +kernel) rfl), by decide⟩
theorem mf_X12_offBy : MFv kX12_offBy 2 := ⟨nm_X12_offBy, (gt_in (i := 1208) (by decide +kernel) rfl), (gt_sel (q := (⟨"HotCornerModel", "offBy", "(II)I"⟩, 45)) (i := 61) (by decide +kernel))⟩
set_option maxRecDepth 100000 in
theorem nm_X12_badBy : NM kX12_badBy 2 := ⟨(gt_in (i := 1205) rfl rfl), (gt_in (i := 18) (by decide +kernel) rfl), ⟨by decide, by decide, by decide +kernel⟩, by decide⟩
theorem mu_X12_badBy : MFu kX12_badBy 2 := ⟨nm_X12_badBy, (gt_in (i := 1204) (by decide +kernel) rfl), by decide⟩
theorem mf_X12_badBy : MFv kX12_badBy 2 := ⟨nm_X12_badBy, (gt_in (i := 1204) (by decide +kernel) rfl), (gt_sel (q := (⟨"HotCornerModel", "badBy", "(II)I"⟩, 45)) (i := 60) (by decide +kernel))⟩
set_option maxRecDepth 100000 in
theorem nm_X12_badOfAll : NM kX12_badOfAll 0 := ⟨(gt_in (i := 1197) rfl rfl), (gt_in (i := 18) (by decide +kernel) rfl), ⟨by decide, by decide, by decide +kernel⟩, by decide⟩
theorem mu_X12_badOfAll : MFu kX12_badOfAll 0 := ⟨nm_X12_badOfAll, (gt_in (i := 1196) (by decide +kernel) rfl), by decide⟩
theorem mf_X12_badOfAll : MFv kX12_badOfAll 0 := ⟨nm_X12_badOfAll, (gt_in (i := 1196) (by decide +kernel) rfl), (gt_sel (q := (⟨"HotCornerModel", "badOfAll", "()I"⟩, 45)) (i := 58) (by decide +kernel))⟩
set_option maxRecDepth 100000 in
theorem nm_X12_mostBrown : NM kX12_mostBrown 0 := ⟨(gt_in (i := 1217) rfl rfl), (gt_in (i := 18) (by decide +kernel) rfl), ⟨by decide, by decide, by decide +kernel⟩, by decide⟩
theorem mu_X12_mostBrown : MFu kX12_mostBrown 0 := ⟨nm_X12_mostBrown, (gt_in (i := 1216) (by decide +kernel) rfl), by decide⟩
theorem mf_X12_mostBrown : MFv kX12_mostBrown 0 := ⟨nm_X12_mostBrown, (gt_in (i := 1216) (by decide +kernel) rfl), (gt_sel (q := (⟨"HotCornerModel", "mostBrown", "()I"⟩, 45)) (i := 63) (by decide +kernel))⟩
set_option maxRecDepth 100000 in
theorem nm_X12_leastBrown : NM kX12_leastBrown 0 := ⟨(gt_in (i := 1221) rfl rfl), (gt_in (i := 18) (by decide +kernel) rfl), ⟨by decide, by decide, by decide +kernel⟩, by decide⟩
theorem mu_X12_leastBrown : MFu kX12_leastBrown 0 := ⟨nm_X12_leastBrown, (gt_in (i := 1220) (by decide +kernel) rfl), by decide⟩
theorem mf_X12_leastBrown : MFv kX12_leastBrown 0 := ⟨nm_X12_leastBrown, (gt_in (i := 1220) (by decide +kernel) rfl), (gt_sel (q := (⟨"HotCornerModel", "leastBrown", "()I"⟩, 45)) (i := 64) (by decide +kernel))⟩
set_option maxRecDepth 100000 in
theorem nm_X12_apart : NM kX12_apart 0 := ⟨(gt_in (i := 1213) rfl rfl), (gt_in (i := 18) (by decide +kernel) rfl), ⟨by decide, by decide, by decide +kernel⟩, by decide⟩
theorem mu_X12_apart : MFu kX12_apart 0 := ⟨nm_X12_apart, (gt_in (i := 1212) (by decide +kernel) rfl), by decide⟩
theorem mf_X12_apart : MFv kX12_apart 0 := ⟨nm_X12_apart, (gt_in (i := 1212) (by decide +kernel) rfl), (gt_sel (q := (⟨"HotCornerModel", "apart", "()I"⟩, 45)) (i := 62) (by decide +kernel))⟩
set_option maxRecDepth 100000 in
theorem nm_X12_badNow : NM kX12_badNow 0 := ⟨(gt_in (i := 1249) rfl rfl), (gt_in (i := 18) (by decide +kernel) rfl), ⟨by decide, by decide, by decide +kernel⟩, by decide⟩
theorem mu_X12_badNow : MFu kX12_badNow 0 := ⟨nm_X12_badNow, (gt_in (i := 1248) (by decide +kernel) rfl), by decide⟩
theorem mf_X12_badNow : MFv kX12_badNow 0 := ⟨nm_X12_badNow, (gt_in (i := 1248) (by decide +kernel) rfl), (gt_sel (q := (⟨"HotCornerModel", "badNow", "()I"⟩, 45)) (i := 69) (by decide +kernel))⟩
set_option maxRecDepth 100000 in
theorem nm_X12_apartNow : NM kX12_apartNow 0 := ⟨(gt_in (i := 1245) rfl rfl), (gt_in (i := 18) (by decide +kernel) rfl), ⟨by decide, by decide, by decide +kernel⟩, by decide⟩
theorem mu_X12_apartNow : MFu kX12_apartNow 0 := ⟨nm_X12_apartNow, (gt_in (i := 1244) (by decide +kernel) rfl), by decide⟩
theorem mf_X12_apartNow : MFv kX12_apartNow 0 := ⟨nm_X12_apartNow, (gt_in (i := 1244) (by decide +kernel) rfl), (gt_sel (q := (⟨"HotCornerModel", "apartNow", "()I"⟩, 45)) (i := 68) (by decide +kernel))⟩
set_option maxRecDepth 100000 in
theorem nm_X12_at : NM kX12_at 2 := ⟨(gt_in (i := 1165) rfl rfl), (gt_in (i := 18) (by decide +kernel) rfl), ⟨by decide, by decide, by decide +kernel⟩, by decide⟩
theorem mu_X12_at : MFu kX12_at 2 := ⟨nm_X12_at, (gt_in (i := 1163) (by decide +kernel) rfl), by decide⟩
theorem mf_X12_at : MFv kX12_at 2 := ⟨nm_X12_at, (gt_in (i := 1163) (by decide +kernel) rfl), (gt_in (i := 1164) (by decide +kernel) rfl)⟩
set_option maxRecDepth 100000 in
theorem nm_X12_exact : NM kX12_exact 0 := ⟨(gt_in (i := 1225) rfl rfl), (gt_in (i := 18) (by decide +kernel) rfl), ⟨by decide, by decide, by decide +kernel⟩, by decide⟩
theorem mu_X12_exact : MFu kX12_exact 0 := ⟨nm_X12_exact, (gt_in (i := 1224) (by decide +kernel) rfl), by decide⟩
theorem mf_X12_exact : MFv kX12_exact 0 := ⟨nm_X12_exact, (gt_in (i := 1224) (by decide +kernel) rfl), (gt_sel (q := (⟨"HotCornerModel", "exact", "()I"⟩, 45)) (i := 65) (by decide +kernel))⟩
set_option maxRecDepth 100000 in
theorem nm_X12_end : NM kX12_end 1 := ⟨(gt_in (i := 1193) rfl rfl), (gt_in (i := 18) (by decide +kernel) rfl), ⟨by decide, by decide, by decide +kernel⟩, by decide⟩
theorem mu_X12_end : MFu kX12_end 1 := ⟨nm_X12_end, (gt_in (i := 1191) (by decide +kernel) rfl), by decide⟩
theorem mf_X12_end : MFv kX12_end 1 := ⟨nm_X12_end, (gt_in (i := 1191) (by decide +kernel) rfl), (gt_in (i := 1192) (by decide +kernel) rfl)⟩
set_option maxRecDepth 100000 in
theorem nm_X12_off : NM kX12_off 2 := ⟨(gt_in (i := 1229) rfl rfl), (gt_in (i := 18) (by decide +kernel) rfl), ⟨by decide, by decide, by decide +kernel⟩, by decide⟩
theorem mu_X12_off : MFu kX12_off 2 := ⟨nm_X12_off, (gt_in (i := 1227) (by decide +kernel) rfl), by decide⟩
theorem mf_X12_off : MFv kX12_off 2 := ⟨nm_X12_off, (gt_in (i := 1227) (by decide +kernel) rfl), (gt_in (i := 1228) (by decide +kernel) rfl)⟩
set_option maxRecDepth 100000 in
theorem nm_X12_keepsPlan : NM kX12_keepsPlan 0 := ⟨(gt_in (i := 1237) rfl rfl), (gt_in (i := 18) (by decide +kernel) rfl), ⟨by decide, by decide, by decide +kernel⟩, by decide⟩
theorem mu_X12_keepsPlan : MFu kX12_keepsPlan 0 := ⟨nm_X12_keepsPlan, (gt_in (i := 1236) (by decide +kernel) rfl), by decide⟩
theorem mf_X12_keepsPlan : MFv kX12_keepsPlan 0 := ⟨nm_X12_keepsPlan, (gt_in (i := 1236) (by decide +kernel) rfl), (gt_sel (q := (⟨"HotCornerModel", "keepsPlan", "()V"⟩, 45)) (i := 66) (by decide +kernel))⟩
set_option maxRecDepth 100000 in
theorem nm_X12_laysPlan : NM kX12_laysPlan 0 := ⟨(gt_in (i := 1253) rfl rfl), (gt_in (i := 18) (by decide +kernel) rfl), ⟨by decide, by decide, by decide +kernel⟩, by decide⟩
theorem mu_X12_laysPlan : MFu kX12_laysPlan 0 := ⟨nm_X12_laysPlan, (gt_in (i := 1252) (by decide +kernel) rfl), by decide⟩
theorem mf_X12_laysPlan : MFv kX12_laysPlan 0 := ⟨nm_X12_laysPlan, (gt_in (i := 1252) (by decide +kernel) rfl), (gt_sel (q := (⟨"HotCornerModel", "laysPlan", "()V"⟩, 45)) (i := 70) (by decide +kernel))⟩
set_option maxRecDepth 100000 in
theorem nm_X12_plans : NM kX12_plans 3 := ⟨(gt_in (i := 1241) rfl rfl), (gt_in (i := 18) (by decide +kernel) rfl), ⟨by decide, by decide, by decide +kernel⟩, by decide⟩
theorem mu_X12_plans : MFu kX12_plans 3 := ⟨nm_X12_plans, (gt_in (i := 1240) (by decide +kernel) rfl), by decide⟩
theorem mf_X12_plans : MFv kX12_plans 3 := ⟨nm_X12_plans, (gt_in (i := 1240) (by decide +kernel) rfl), (gt_sel (q := (⟨"HotCornerModel", "plans", "(III)V"⟩, 45)) (i := 67) (by decide +kernel))⟩
set_option maxRecDepth 100000 in
theorem nm_X12_when : NM kX12_when 2 := ⟨(gt_in (i := 1233) rfl rfl), (gt_in (i := 18) (by decide +kernel) rfl), ⟨by decide, by decide, by decide +kernel⟩, by decide⟩
theorem mu_X12_when : MFu kX12_when 2 := ⟨nm_X12_when, (gt_in (i := 1231) (by decide +kernel) rfl), by decide⟩
theorem mf_X12_when : MFv kX12_when 2 := ⟨nm_X12_when, (gt_in (i := 1231) (by decide +kernel) rfl), (gt_in (i := 1232) (by decide +kernel) rfl)⟩
set_option maxRecDepth 100000 in
theorem nm_X12_twice : NM kX12_twice 1 := ⟨(gt_in (i := 1257) rfl rfl), (gt_in (i := 18) (by decide +kernel) rfl), ⟨by decide, by decide, by decide +kernel⟩, by decide⟩
theorem mu_X12_twice : MFu kX12_twice 1 := ⟨nm_X12_twice, (gt_in (i := 1255) (by decide +kernel) rfl), by decide⟩
theorem mf_X12_twice : MFv kX12_twice 1 := ⟨nm_X12_twice, (gt_in (i := 1255) (by decide +kernel) rfl), (gt_in (i := 1256) (by decide +kernel) rfl)⟩
set_option maxRecDepth 100000 in
theorem nm_X12_until : NM kX12_until 1 := ⟨(gt_in (i := 1261) rfl rfl), (gt_in (i := 18) (by decide +kernel) rfl), ⟨by decide, by decide, by decide +kernel⟩, by decide⟩
theorem mu_X12_until : MFu kX12_until 1 := ⟨nm_X12_until, (gt_in (i := 1259) (by decide +kernel) rfl), by decide⟩
theorem mf_X12_until : MFv kX12_until 1 := ⟨nm_X12_until, (gt_in (i := 1259) (by decide +kernel) rfl), (gt_in (i := 1260) (by decide +kernel) rfl)⟩
set_option maxRecDepth 100000 in
theorem nm_X12_outOf : NM kX12_outOf 1 := ⟨(gt_in (i := 1269) rfl rfl), (gt_in (i := 18) (by decide +kernel) rfl), ⟨by decide, by decide, by decide +kernel⟩, by decide⟩
theorem mu_X12_outOf : MFu kX12_outOf 1 := ⟨nm_X12_outOf, (gt_in (i := 1268) (by decide +kernel) rfl), by decide⟩
theorem mf_X12_outOf : MFv kX12_outOf 1 := ⟨nm_X12_outOf, (gt_in (i := 1268) (by decide +kernel) rfl), (gt_sel (q := (⟨"HotCornerModel", "outOf", "(I)I"⟩, 45)) (i := 71) (by decide +kernel))⟩
set_option maxRecDepth 100000 in
theorem nm_X12_out : NM kX12_out 2 := ⟨(gt_in (i := 1265) rfl rfl), (gt_in (i := 18) (by decide +kernel) rfl), ⟨by decide, by decide, by decide +kernel⟩, by decide⟩
theorem mu_X12_out : MFu kX12_out 2 := ⟨nm_X12_out, (gt_in (i := 1263) (by decide +kernel) rfl), by decide⟩
theorem mf_X12_out : MFv kX12_out 2 := ⟨nm_X12_out, (gt_in (i := 1263) (by decide +kernel) rfl), (gt_in (i := 1264) (by decide +kernel) rfl)⟩
set_option maxRecDepth 100000 in
theorem nm_X12_singly : NM kX12_singly 0 := ⟨(gt_in (i := 1273) rfl rfl), (gt_in (i := 18) (by decide +kernel) rfl), ⟨by decide, by decide, by decide +kernel⟩, by decide⟩
theorem mu_X12_singly : MFu kX12_singly 0 := ⟨nm_X12_singly, (gt_in (i := 1271) (by decide +kernel) rfl), by decide⟩
theorem mf_X12_singly : MFv kX12_singly 0 := ⟨nm_X12_singly, (gt_in (i := 1271) (by decide +kernel) rfl), (gt_in (i := 1272) (by decide +kernel) rfl)⟩
set_option maxRecDepth 100000 in
theorem nm_X12_soon : NM kX12_soon 2 := ⟨(gt_in (i := 1277) rfl rfl), (gt_in (i := 18) (by decide +kernel) rfl), ⟨by decide, by decide, by decide +kernel⟩, by decide⟩
theorem mu_X12_soon : MFu kX12_soon 2 := ⟨nm_X12_soon, (gt_in (i := 1275) (by decide +kernel) rfl), by decide⟩
theorem mf_X12_soon : MFv kX12_soon 2 := ⟨nm_X12_soon, (gt_in (i := 1275) (by decide +kernel) rfl), (gt_in (i := 1276) (by decide +kernel) rfl)⟩
set_option maxRecDepth 100000 in
theorem nm_X12_few : NM kX12_few 1 := ⟨(gt_in (i := 1281) rfl rfl), (gt_in (i := 18) (by decide +kernel) rfl), ⟨by decide, by decide, by decide +kernel⟩, by decide⟩
theorem mu_X12_few : MFu kX12_few 1 := ⟨nm_X12_few, (gt_in (i := 1279) (by decide +kernel) rfl), by decide⟩
theorem mf_X12_few : MFv kX12_few 1 := ⟨nm_X12_few, (gt_in (i := 1279) (by decide +kernel) rfl), (gt_in (i := 1280) (by decide +kernel) rfl)⟩
set_option maxRecDepth 100000 in
theorem nm_X12_keepsHot : NM kX12_keepsHot 0 := ⟨(gt_in (i := 1289) rfl rfl), (gt_in (i := 18) (by decide +kernel) rfl), ⟨by decide, by decide, by decide +kernel⟩, by decide⟩
theorem mu_X12_keepsHot : MFu kX12_keepsHot 0 := ⟨nm_X12_keepsHot, (gt_in (i := 1288) (by decide +kernel) rfl), by decide⟩
theorem mf_X12_keepsHot : MFv kX12_keepsHot 0 := ⟨nm_X12_keepsHot, (gt_in (i := 1288) (by decide +kernel) rfl), (gt_sel (q := (⟨"HotCornerModel", "keepsHot", "()V"⟩, 45)) (i := 72) (by decide +kernel))⟩
set_option maxRecDepth 100000 in
theorem nm_X12_laysHot : NM kX12_laysHot 0 := ⟨(gt_in (i := 1293) rfl rfl), (gt_in (i := 18) (by decide +kernel) rfl), ⟨by decide, by decide, by decide +kernel⟩, by decide⟩
theorem mu_X12_laysHot : MFu kX12_laysHot 0 := ⟨nm_X12_laysHot, (gt_in (i := 1292) (by decide +kernel) rfl), by decide⟩
theorem mf_X12_laysHot : MFv kX12_laysHot 0 := ⟨nm_X12_laysHot, (gt_in (i := 1292) (by decide +kernel) rfl), (gt_sel (q := (⟨"HotCornerModel", "laysHot", "()V"⟩, 45)) (i := 73) (by decide +kernel))⟩
set_option maxRecDepth 100000 in
theorem nm_X12_fan : NM kX12_fan 0 := ⟨(gt_in (i := 1285) rfl rfl), (gt_in (i := 18) (by decide +kernel) rfl), ⟨by decide, by decide, by decide +kernel⟩, by decide⟩
theorem mu_X12_fan : MFu kX12_fan 0 := ⟨nm_X12_fan, (gt_in (i := 1283) (by decide +kernel) rfl), by decide⟩
theorem mf_X12_fan : MFv kX12_fan 0 := ⟨nm_X12_fan, (gt_in (i := 1283) (by decide +kernel) rfl), (gt_in (i := 1284) (by decide +kernel) rfl)⟩
set_option maxRecDepth 100000 in
theorem nm_X12_cost : NM kX12_cost 0 := ⟨(gt_in (i := 1297) rfl rfl), (gt_in (i := 18) (by decide +kernel) rfl), ⟨by decide, by decide, by decide +kernel⟩, by decide⟩
theorem mu_X12_cost : MFu kX12_cost 0 := ⟨nm_X12_cost, (gt_in (i := 1295) (by decide +kernel) rfl), by decide⟩
theorem mf_X12_cost : MFv kX12_cost 0 := ⟨nm_X12_cost, (gt_in (i := 1295) (by decide +kernel) rfl), (gt_in (i := 1296) (by decide +kernel) rfl)⟩
set_option maxRecDepth 100000 in
theorem nm_X12_lay : NM kX12_lay 2 := ⟨(gt_in (i := 1301) rfl rfl), (gt_in (i := 18) (by decide +kernel) rfl), ⟨by decide, by decide, by decide +kernel⟩, by decide⟩
theorem mu_X12_lay : MFu kX12_lay 2 := ⟨nm_X12_lay, (gt_in (i := 1299) (by decide +kernel) rfl), by decide⟩
theorem mf_X12_lay : MFv kX12_lay 2 := ⟨nm_X12_lay, (gt_in (i := 1299) (by decide +kernel) rfl), (gt_in (i := 1300) (by decide +kernel) rfl)⟩
set_option maxRecDepth 100000 in
theorem nm_X12_swaps : NM kX12_swaps 2 := ⟨(gt_in (i := 1309) rfl rfl), (gt_in (i := 18) (by decide +kernel) rfl), ⟨by decide, by decide, by decide +kernel⟩, by decide⟩
theorem mu_X12_swaps : MFu kX12_swaps 2 := ⟨nm_X12_swaps, (gt_in (i := 1308) (by decide +kernel) rfl), by decide⟩
theorem mf_X12_swaps : MFv kX12_swaps 2 := ⟨nm_X12_swaps, (gt_in (i := 1308) (by decide +kernel) rfl), (gt_sel (q := (⟨"HotCornerModel", "swaps", "(II)V"⟩, 45)) (i := 74) (by decide +kernel))⟩
set_option maxRecDepth 100000 in
theorem nm_X12_swap : NM kX12_swap 1 := ⟨(gt_in (i := 1305) rfl rfl), (gt_in (i := 18) (by decide +kernel) rfl), ⟨by decide, by decide, by decide +kernel⟩, by decide⟩
theorem mu_X12_swap : MFu kX12_swap 1 := ⟨nm_X12_swap, (gt_in (i := 1303) (by decide +kernel) rfl), by decide⟩
theorem mf_X12_swap : MFv kX12_swap 1 := ⟨nm_X12_swap, (gt_in (i := 1303) (by decide +kernel) rfl), (gt_in (i := 1304) (by decide +kernel) rfl)⟩
set_option maxRecDepth 100000 in
theorem nm_X12_which : NM kX12_which 1 := ⟨(gt_in (i := 1313) rfl rfl), (gt_in (i := 18) (by decide +kernel) rfl), ⟨by decide, by decide, by decide +kernel⟩, by decide⟩
theorem mu_X12_which : MFu kX12_which 1 := ⟨nm_X12_which, (gt_in (i := 1311) (by decide +kernel) rfl), by decide⟩
theorem mf_X12_which : MFv kX12_which 1 := ⟨nm_X12_which, (gt_in (i := 1311) (by decide +kernel) rfl), (gt_in (i := 1312) (by decide +kernel) rfl)⟩
set_option maxRecDepth 100000 in
theorem nm_X12_sheetWrong : NM kX12_sheetWrong 1 := ⟨(gt_in (i := 1321) rfl rfl), (gt_in (i := 18) (by decide +kernel) rfl), ⟨by decide, by decide, by decide +kernel⟩, by decide⟩
theorem mu_X12_sheetWrong : MFu kX12_sheetWrong 1 := ⟨nm_X12_sheetWrong, (gt_in (i := 1320) (by decide +kernel) rfl), by decide⟩
theorem mf_X12_sheetWrong : MFv kX12_sheetWrong 1 := ⟨nm_X12_sheetWrong, (gt_in (i := 1320) (by decide +kernel) rfl), (gt_sel (q := (⟨"HotCornerModel", "sheetWrong", "(I)I"⟩, 45)) (i := 75) (by decide +kernel))⟩
set_option maxRecDepth 100000 in
theorem nm_X12_unlike : NM kX12_unlike 1 := ⟨(gt_in (i := 1325) rfl rfl), (gt_in (i := 18) (by decide +kernel) rfl), ⟨by decide, by decide, by decide +kernel⟩, by decide⟩
theorem mu_X12_unlike : MFu kX12_unlike 1 := ⟨nm_X12_unlike, (gt_in (i := 1324) (by decide +kernel) rfl), by decide⟩
theorem mf_X12_unlike : MFv kX12_unlike 1 := ⟨nm_X12_unlike, (gt_in (i := 1324) (by decide +kernel) rfl), (gt_sel (q := (⟨"HotCornerModel", "unlike", "(I)I"⟩, 45)) (i := 76) (by decide +kernel))⟩
set_option maxRecDepth 100000 in
theorem nm_X12_judge : NM kX12_judge 1 := ⟨(gt_in (i := 1317) rfl rfl), (gt_in (i := 18) (by decide +kernel) rfl), ⟨by decide, by decide, by decide +kernel⟩, by decide⟩
theorem mu_X12_judge : MFu kX12_judge 1 := ⟨nm_X12_judge, (gt_in (i := 1315) (by decide +kernel) rfl), by decide⟩
theorem mf_X12_judge : MFv kX12_judge 1 := ⟨nm_X12_judge, (gt_in (i := 1315) (by decide +kernel) rfl), (gt_in (i := 1316) (by decide +kernel) rfl)⟩
set_option maxRecDepth 100000 in
theorem nm_X12_how : NM kX12_how 1 := ⟨(gt_in (i := 1329) rfl rfl), (gt_in (i := 18) (by decide +kernel) rfl), ⟨by decide, by decide, by decide +kernel⟩, by decide⟩
theorem mu_X12_how : MFu kX12_how 1 := ⟨nm_X12_how, (gt_in (i := 1327) (by decide +kernel) rfl), by decide⟩
theorem mf_X12_how : MFv kX12_how 1 := ⟨nm_X12_how, (gt_in (i := 1327) (by decide +kernel) rfl), (gt_in (i := 1328) (by decide +kernel) rfl)⟩
set_option maxRecDepth 100000 in
theorem nm_X12_kinds : NM kX12_kinds 3 := ⟨(gt_in (i := 1333) rfl rfl), (gt_in (i := 18) (by decide +kernel) rfl), ⟨by decide, by decide, by decide +kernel⟩, by decide⟩
theorem mu_X12_kinds : MFu kX12_kinds 3 := ⟨nm_X12_kinds, (gt_in (i := 1331) (by decide +kernel) rfl), by decide⟩
theorem mf_X12_kinds : MFv kX12_kinds 3 := ⟨nm_X12_kinds, (gt_in (i := 1331) (by decide +kernel) rfl), (gt_in (i := 1332) (by decide +kernel) rfl)⟩
set_option maxRecDepth 100000 in
theorem nm_X12_heats : NM kX12_heats 3 := ⟨(gt_in (i := 1337) rfl rfl), (gt_in (i := 18) (by decide +kernel) rfl), ⟨by decide, by decide, by decide +kernel⟩, by decide⟩
theorem mu_X12_heats : MFu kX12_heats 3 := ⟨nm_X12_heats, (gt_in (i := 1335) (by decide +kernel) rfl), by decide⟩
theorem mf_X12_heats : MFv kX12_heats 3 := ⟨nm_X12_heats, (gt_in (i := 1335) (by decide +kernel) rfl), (gt_in (i := 1336) (by decide +kernel) rfl)⟩
set_option maxRecDepth 100000 in
theorem nm_X12_turned : NM kX12_turned 1 := ⟨(gt_in (i := 1341) rfl rfl), (gt_in (i := 18) (by decide +kernel) rfl), ⟨by decide, by decide, by decide +kernel⟩, by decide⟩
theorem mu_X12_turned : MFu kX12_turned 1 := ⟨nm_X12_turned, (gt_in (i := 1339) (by decide +kernel) rfl), by decide⟩
theorem mf_X12_turned : MFv kX12_turned 1 := ⟨nm_X12_turned, (gt_in (i := 1339) (by decide +kernel) rfl), (gt_in (i := 1340) (by decide +kernel) rfl)⟩
set_option maxRecDepth 100000 in
theorem nm_X12_laws : NM kX12_laws 1 := ⟨(gt_in (i := 1346) rfl rfl), (gt_in (i := 18) (by decide +kernel) rfl), ⟨by decide, by decide, by decide +kernel⟩, by decide⟩
theorem mu_X12_laws : MFu kX12_laws 1 := ⟨nm_X12_laws, (gt_in (i := 1344) (by decide +kernel) rfl), by decide⟩
theorem mf_X12_laws : MFv kX12_laws 1 := ⟨nm_X12_laws, (gt_in (i := 1344) (by decide +kernel) rfl), (gt_in (i := 1345) (by decide +kernel) rfl)⟩
set_option maxRecDepth 100000 in
theorem nm_X12_film : NM kX12_film 2 := ⟨(gt_in (i := 1350) rfl rfl), (gt_in (i := 18) (by decide +kernel) rfl), ⟨by decide, by decide, by decide +kernel⟩, by decide⟩
theorem mu_X12_film : MFu kX12_film 2 := ⟨nm_X12_film, (gt_in (i := 1348) (by decide +kernel) rfl), by decide⟩
theorem mf_X12_film : MFv kX12_film 2 := ⟨nm_X12_film, (gt_in (i := 1348) (by decide +kernel) rfl), (gt_in (i := 1349) (by decide +kernel) rfl)⟩
set_option maxRecDepth 100000 in
theorem nm_X12_bakesBy : NM kX12_bakesBy 1 := ⟨(gt_in (i := 1359) rfl rfl), (gt_in (i := 18) (by decide +kernel) rfl), ⟨by decide, by decide, by decide +kernel⟩, by decide⟩
theorem mu_X12_bakesBy : MFu kX12_bakesBy 1 := ⟨nm_X12_bakesBy, (gt_in (i := 1358) (by decide +kernel) rfl), by decide⟩
theorem mf_X12_bakesBy : MFv kX12_bakesBy 1 := ⟨nm_X12_bakesBy, (gt_in (i := 1358) (by decide +kernel) rfl), (gt_sel (q := (⟨"HotCornerModel", "bakesBy", "(I)V"⟩, 45)) (i := 77) (by decide +kernel))⟩
set_option maxRecDepth 100000 in
theorem nm_X12_drawn : NM kX12_drawn 2 := ⟨(gt_in (i := 1354) rfl rfl), (gt_in (i := 18) (by decide +kernel) rfl), ⟨by decide, by decide, by decide +kernel⟩, by decide⟩
theorem mu_X12_drawn : MFu kX12_drawn 2 := ⟨nm_X12_drawn, (gt_in (i := 1352) (by decide +kernel) rfl), by decide⟩
theorem mf_X12_drawn : MFv kX12_drawn 2 := ⟨nm_X12_drawn, (gt_in (i := 1352) (by decide +kernel) rfl), (gt_in (i := 1353) (by decide +kernel) rfl)⟩
set_option maxRecDepth 100000 in
theorem nm_X12_lowest : NM kX12_lowest 3 := ⟨(gt_in (i := 1369) rfl rfl), (gt_in (i := 18) (by decide +kernel) rfl), ⟨by decide, by decide, by decide +kernel⟩, by decide⟩
theorem mf_X12_lowest : MFs kX12_lowest 3 := ⟨nm_X12_lowest, (gt_in (i := 1368) (by decide +kernel) rfl)⟩
set_option maxRecDepth 100000 in
theorem nm_X12_odds : NM kX12_odds 4 := ⟨(gt_in (i := 1366) rfl rfl), (gt_in (i := 18) (by decide +kernel) rfl), ⟨by decide, by decide, by decide +kernel⟩, by decide⟩
theorem mu_X12_odds : MFu kX12_odds 4 := ⟨nm_X12_odds, (gt_in (i := 1364) (by decide +kernel) rfl), by decide⟩
theorem mf_X12_odds : MFv kX12_odds 4 := ⟨nm_X12_odds, (gt_in (i := 1364) (by decide +kernel) rfl), (gt_in (i := 1365) (by decide +kernel) rfl)⟩
set_option maxRecDepth 100000 in
theorem nm_X12_image : NM kX12_image 0 := ⟨(gt_in (i := 1373) rfl rfl), (gt_in (i := 18) (by decide +kernel) rfl), ⟨by decide, by decide, by decide +kernel⟩, by decide⟩
theorem mu_X12_image : MFu kX12_image 0 := ⟨nm_X12_image, (gt_in (i := 1371) (by decide +kernel) rfl), by decide⟩
theorem mf_X12_image : MFv kX12_image 0 := ⟨nm_X12_image, (gt_in (i := 1371) (by decide +kernel) rfl), (gt_in (i := 1372) (by decide +kernel) rfl)⟩
set_option maxRecDepth 100000 in
theorem nm_X12_back : NM kX12_back 0 := ⟨(gt_in (i := 1377) rfl rfl), (gt_in (i := 18) (by decide +kernel) rfl), ⟨by decide, by decide, by decide +kernel⟩, by decide⟩
theorem mu_X12_back : MFu kX12_back 0 := ⟨nm_X12_back, (gt_in (i := 1375) (by decide +kernel) rfl), by decide⟩
theorem mf_X12_back : MFv kX12_back 0 := ⟨nm_X12_back, (gt_in (i := 1375) (by decide +kernel) rfl), (gt_in (i := 1376) (by decide +kernel) rfl)⟩
set_option maxRecDepth 100000 in
theorem nm_X12_sheet : NM kX12_sheet 3 := ⟨(gt_in (i := 1381) rfl rfl), (gt_in (i := 18) (by decide +kernel) rfl), ⟨by decide, by decide, by decide +kernel⟩, by decide⟩
theorem mu_X12_sheet : MFu kX12_sheet 3 := ⟨nm_X12_sheet, (gt_in (i := 1379) (by decide +kernel) rfl), by decide⟩
theorem mf_X12_sheet : MFv kX12_sheet 3 := ⟨nm_X12_sheet, (gt_in (i := 1379) (by decide +kernel) rfl), (gt_in (i := 1380) (by decide +kernel) rfl)⟩
set_option maxRecDepth 100000 in
theorem nm_X12_cell : NM kX12_cell 3 := ⟨(gt_in (i := 1385) rfl rfl), (gt_in (i := 18) (by decide +kernel) rfl), ⟨by decide, by decide, by decide +kernel⟩, by decide⟩
theorem mu_X12_cell : MFu kX12_cell 3 := ⟨nm_X12_cell, (gt_in (i := 1383) (by decide +kernel) rfl), by decide⟩
theorem mf_X12_cell : MFv kX12_cell 3 := ⟨nm_X12_cell, (gt_in (i := 1383) (by decide +kernel) rfl), (gt_in (i := 1384) (by decide +kernel) rfl)⟩
set_option maxRecDepth 100000 in
theorem nm_X12_copy : NM kX12_copy 5 := ⟨(gt_in (i := 1389) rfl rfl), (gt_in (i := 18) (by decide +kernel) rfl), ⟨by decide, by decide, by decide +kernel⟩, by decide⟩
theorem mu_X12_copy : MFu kX12_copy 5 := ⟨nm_X12_copy, (gt_in (i := 1387) (by decide +kernel) rfl), by decide⟩
theorem mf_X12_copy : MFv kX12_copy 5 := ⟨nm_X12_copy, (gt_in (i := 1387) (by decide +kernel) rfl), (gt_in (i := 1388) (by decide +kernel) rfl)⟩
set_option maxRecDepth 100000 in
theorem nm_X12_cakesBy : NM kX12_cakesBy 4 := ⟨(gt_in (i := 1393) rfl rfl), (gt_in (i := 18) (by decide +kernel) rfl), ⟨by decide, by decide, by decide +kernel⟩, by decide⟩
theorem mu_X12_cakesBy : MFu kX12_cakesBy 4 := ⟨nm_X12_cakesBy, (gt_in (i := 1391) (by decide +kernel) rfl), by decide⟩
theorem mf_X12_cakesBy : MFv kX12_cakesBy 4 := ⟨nm_X12_cakesBy, (gt_in (i := 1391) (by decide +kernel) rfl), (gt_in (i := 1392) (by decide +kernel) rfl)⟩
set_option maxRecDepth 100000 in
theorem nm_X12_isUnder : NM kX12_isUnder 2 := ⟨(gt_in (i := 1401) rfl rfl), (gt_in (i := 18) (by decide +kernel) rfl), ⟨by decide, by decide, by decide +kernel⟩, by decide⟩
theorem mf_X12_isUnder : MFs kX12_isUnder 2 := ⟨nm_X12_isUnder, (gt_in (i := 1400) (by decide +kernel) rfl)⟩
set_option maxRecDepth 100000 in
theorem nm_X12_taken : NM kX12_taken 2 := ⟨(gt_in (i := 1398) rfl rfl), (gt_in (i := 18) (by decide +kernel) rfl), ⟨by decide, by decide, by decide +kernel⟩, by decide⟩
theorem mu_X12_taken : MFu kX12_taken 2 := ⟨nm_X12_taken, (gt_in (i := 1396) (by decide +kernel) rfl), by decide⟩
theorem mf_X12_taken : MFv kX12_taken 2 := ⟨nm_X12_taken, (gt_in (i := 1396) (by decide +kernel) rfl), (gt_in (i := 1397) (by decide +kernel) rfl)⟩
set_option maxRecDepth 100000 in
theorem nm_J9_max_7cf53 : NM kJ9_max_7cf53 2 := ⟨(gt_in (i := 394) rfl rfl), (gt_in (i := 17) (by decide +kernel) rfl), ⟨by decide, by decide, by decide +kernel⟩, by decide⟩
theorem mf_J9_max_7cf53 : MFs kJ9_max_7cf53 2 := ⟨nm_J9_max_7cf53, (gt_in (i := 393) (by decide +kernel) rfl)⟩
set_option maxRecDepth 100000 in
theorem nm_J9_min_7cf53 : NM kJ9_min_7cf53 2 := ⟨(gt_in (i := 391) rfl rfl), (gt_in (i := 17) (by decide +kernel) rfl), ⟨by decide, by decide, by decide +kernel⟩, by decide⟩
theorem mf_J9_min_7cf53 : MFs kJ9_min_7cf53 2 := ⟨nm_J9_min_7cf53, (gt_in (i := 390) (by decide +kernel) rfl)⟩
set_option maxRecDepth 100000 in
theorem nm_J0_length_8abf5 : NM kJ0_length_8abf5 0 := ⟨(gt_in (i := 237) rfl rfl), (gt_in (i := 12) (by decide +kernel) rfl), ⟨by decide, by decide, by decide +kernel⟩, by decide⟩
theorem mu_J0_length_8abf5 : MFu kJ0_length_8abf5 0 := ⟨nm_J0_length_8abf5, (gt_in (i := 235) (by decide +kernel) rfl), by decide⟩
theorem mf_J0_length_8abf5 : MFv kJ0_length_8abf5 0 := ⟨nm_J0_length_8abf5, (gt_in (i := 235) (by decide +kernel) rfl), (gt_in (i := 236) (by decide +kernel) rfl)⟩
set_option maxRecDepth 100000 in
theorem nm_J0_charAt_5068e : NM kJ0_charAt_5068e 1 := ⟨(gt_in (i := 247) rfl rfl), (gt_in (i := 12) (by decide +kernel) rfl), ⟨by decide, by decide, by decide +kernel⟩, by decide⟩
theorem mu_J0_charAt_5068e : MFu kJ0_charAt_5068e 1 := ⟨nm_J0_charAt_5068e, (gt_in (i := 245) (by decide +kernel) rfl), by decide⟩
theorem mf_J0_charAt_5068e : MFv kJ0_charAt_5068e 1 := ⟨nm_J0_charAt_5068e, (gt_in (i := 245) (by decide +kernel) rfl), (gt_in (i := 246) (by decide +kernel) rfl)⟩
set_option maxRecDepth 100000 in
theorem nm_J0_coder_7d493 : NM kJ0_coder_7d493 0 := ⟨(gt_in (i := 241) rfl rfl), (gt_in (i := 12) (by decide +kernel) rfl), ⟨by decide, by decide, by decide +kernel⟩, by decide⟩
theorem mu_J0_coder_7d493 : MFu kJ0_coder_7d493 0 := ⟨nm_J0_coder_7d493, (gt_in (i := 239) (by decide +kernel) rfl), by decide⟩
theorem mf_J0_coder_7d493 : MFv kJ0_coder_7d493 0 := ⟨nm_J0_coder_7d493, (gt_in (i := 239) (by decide +kernel) rfl), (gt_in (i := 240) (by decide +kernel) rfl)⟩
set_option maxRecDepth 100000 in
theorem nm_J0_isLatin1_aae02 : NM kJ0_isLatin1_aae02 0 := ⟨(gt_in (i := 251) rfl rfl), (gt_in (i := 12) (by decide +kernel) rfl), ⟨by decide, by decide, by decide +kernel⟩, by decide⟩
theorem mu_J0_isLatin1_aae02 : MFu kJ0_isLatin1_aae02 0 := ⟨nm_J0_isLatin1_aae02, (gt_in (i := 249) (by decide +kernel) rfl), by decide⟩
theorem mf_J0_isLatin1_aae02 : MFv kJ0_isLatin1_aae02 0 := ⟨nm_J0_isLatin1_aae02, (gt_in (i := 249) (by decide +kernel) rfl), (gt_in (i := 250) (by decide +kernel) rfl)⟩
set_option maxRecDepth 100000 in
theorem nm_J0_checkIndex_df160 : NM kJ0_checkIndex_df160 2 := ⟨(gt_in (i := 257) rfl rfl), (gt_in (i := 12) (by decide +kernel) rfl), ⟨by decide, by decide, by decide +kernel⟩, by decide⟩
theorem mf_J0_checkIndex_df160 : MFs kJ0_checkIndex_df160 2 := ⟨nm_J0_checkIndex_df160, (gt_in (i := 256) (by decide +kernel) rfl)⟩
set_option maxRecDepth 100000 in
theorem nm_J1_charAt_3b067 : NM kJ1_charAt_3b067 2 := ⟨(gt_in (i := 254) rfl rfl), (gt_in (i := 13) (by decide +kernel) rfl), ⟨by decide, by decide, by decide +kernel⟩, by decide⟩
theorem mf_J1_charAt_3b067 : MFs kJ1_charAt_3b067 2 := ⟨nm_J1_charAt_3b067, (gt_in (i := 253) (by decide +kernel) rfl)⟩
set_option maxRecDepth 100000 in
theorem nm_J2_getChar_3b067 : NM kJ2_getChar_3b067 2 := ⟨(gt_in (i := 275) rfl rfl), (gt_in (i := 15) (by decide +kernel) rfl), ⟨by decide, by decide, by decide +kernel⟩, by decide⟩
theorem mf_J2_getChar_3b067 : MFs kJ2_getChar_3b067 2 := ⟨nm_J2_getChar_3b067, (gt_in (i := 274) (by decide +kernel) rfl)⟩
set_option maxRecDepth 100000 in
theorem nm_J2_length_9d52b : NM kJ2_length_9d52b 1 := ⟨(gt_in (i := 271) rfl rfl), (gt_in (i := 15) (by decide +kernel) rfl), ⟨by decide, by decide, by decide +kernel⟩, by decide⟩
theorem mf_J2_length_9d52b : MFs kJ2_length_9d52b 1 := ⟨nm_J2_length_9d52b, (gt_in (i := 270) (by decide +kernel) rfl)⟩
set_option maxRecDepth 100000 in
theorem nm_J2_charAt_3b067 : NM kJ2_charAt_3b067 2 := ⟨(gt_in (i := 265) rfl rfl), (gt_in (i := 15) (by decide +kernel) rfl), ⟨by decide, by decide, by decide +kernel⟩, by decide⟩
theorem mf_J2_charAt_3b067 : MFs kJ2_charAt_3b067 2 := ⟨nm_J2_charAt_3b067, (gt_in (i := 264) (by decide +kernel) rfl)⟩
set_option maxRecDepth 100000 in
theorem nm_J2_checkIndex_2214a : NM kJ2_checkIndex_2214a 2 := ⟨(gt_in (i := 268) rfl rfl), (gt_in (i := 15) (by decide +kernel) rfl), ⟨by decide, by decide, by decide +kernel⟩, by decide⟩
theorem mf_J2_checkIndex_2214a : MFs kJ2_checkIndex_2214a 2 := ⟨nm_J2_checkIndex_2214a, (gt_in (i := 267) (by decide +kernel) rfl)⟩
set_option maxRecDepth 100000 in
theorem nm_J3_checkIndex_8e157 : NM kJ3_checkIndex_8e157 3 := ⟨(gt_in (i := 262) rfl rfl), (gt_in (i := 14) (by decide +kernel) rfl), ⟨by decide, by decide, by decide +kernel⟩, by decide⟩
theorem mf_J3_checkIndex_8e157 : MFs kJ3_checkIndex_8e157 3 := ⟨nm_J3_checkIndex_8e157, (gt_in (i := 261) (by decide +kernel) rfl)⟩
def kL_law : MI := (yL_law, cL_law, 4, (some .boolean))
theorem fl_RX11_10 : FL RX11 10 11 0 := ⟨by decide, by decide, gt_in (i := 409) (by decide +kernel) rfl⟩
theorem fl_RX11_16 : FL RX11 16 11 1 := ⟨by decide, by decide, gt_in (i := 410) (by decide +kernel) rfl⟩
theorem fl_RX11_19 : FL RX11 19 11 2 := ⟨by decide, by decide, gt_in (i := 411) (by decide +kernel) rfl⟩
theorem fl_RX11_25 : FL RX11 25 11 4 := ⟨by decide, by decide, gt_in (i := 413) (by decide +kernel) rfl⟩
theorem fl_RX11_32 : FL RX11 32 11 5 := ⟨by decide, by decide, gt_in (i := 414) (by decide +kernel) rfl⟩
theorem fl_RX11_38 : FL RX11 38 11 6 := ⟨by decide, by decide, gt_in (i := 415) (by decide +kernel) rfl⟩
theorem fl_RX11_44 : FL RX11 44 11 8 := ⟨by decide, by decide, gt_in (i := 417) (by decide +kernel) rfl⟩
theorem fl_RX11_68 : FL RX11 68 5 5 := ⟨by decide, by decide, gt_in (i := 49) (by decide +kernel) rfl⟩
theorem fl_RX11_72 : FL RX11 72 5 9 := ⟨by decide, by decide, gt_in (i := 62) (by decide +kernel) rfl⟩
theorem fl_RX11_75 : FL RX11 75 5 10 := ⟨by decide, by decide, gt_in (i := 63) (by decide +kernel) rfl⟩
theorem fl_RX11_78 : FL RX11 78 5 8 := ⟨by decide, by decide, gt_in (i := 58) (by decide +kernel) rfl⟩
theorem fl_RX11_81 : FL RX11 81 11 7 := ⟨by decide, by decide, gt_in (i := 416) (by decide +kernel) rfl⟩
theorem fl_RX11_84 : FL RX11 84 5 11 := ⟨by decide, by decide, gt_in (i := 66) (by decide +kernel) rfl⟩
theorem fl_RX11_87 : FL RX11 87 6 0 := ⟨by decide, by decide, gt_in (i := 179) (by decide +kernel) rfl⟩
theorem fl_RX11_105 : FL RX11 105 5 0 := ⟨by decide, by decide, gt_in (i := 35) (by decide +kernel) rfl⟩
theorem fl_RX11_120 : FL RX11 120 6 1 := ⟨by decide, by decide, gt_in (i := 181) (by decide +kernel) rfl⟩
theorem fl_RX11_143 : FL RX11 143 5 1 := ⟨by decide, by decide, gt_in (i := 39) (by decide +kernel) rfl⟩
theorem fl_RX11_146 : FL RX11 146 5 2 := ⟨by decide, by decide, gt_in (i := 42) (by decide +kernel) rfl⟩
theorem fl_RX11_149 : FL RX11 149 5 3 := ⟨by decide, by decide, gt_in (i := 45) (by decide +kernel) rfl⟩
theorem fl_RX11_152 : FL RX11 152 5 4 := ⟨by decide, by decide, gt_in (i := 48) (by decide +kernel) rfl⟩
theorem fl_RX11_164 : FL RX11 164 5 6 := ⟨by decide, by decide, gt_in (i := 54) (by decide +kernel) rfl⟩
theorem fl_RX11_171 : FL RX11 171 5 7 := ⟨by decide, by decide, gt_in (i := 57) (by decide +kernel) rfl⟩
theorem fl_RX11_178 : FL RX11 178 0 0 := ⟨by decide, by decide, gt_in (i := 144) (by decide +kernel) rfl⟩
theorem fl_RX11_227 : FL RX11 227 11 10 := ⟨by decide, by decide, gt_in (i := 419) (by decide +kernel) rfl⟩
theorem fl_RX11_262 : FL RX11 262 11 3 := ⟨by decide, by decide, gt_in (i := 412) (by decide +kernel) rfl⟩
theorem fl_RX11_266 : FL RX11 266 7 1 := ⟨by decide, by decide, gt_in (i := 223) (by decide +kernel) rfl⟩
theorem fl_RX11_269 : FL RX11 269 7 2 := ⟨by decide, by decide, gt_in (i := 225) (by decide +kernel) rfl⟩
theorem fl_RX11_270 : FL RX11 270 7 0 := ⟨by decide, by decide, gt_in (i := 221) (by decide +kernel) rfl⟩
theorem fl_RX11_310 : FL RX11 310 11 9 := ⟨by decide, by decide, gt_in (i := 418) (by decide +kernel) rfl⟩
theorem fl_RX11_313 : FL RX11 313 11 11 := ⟨by decide, by decide, gt_in (i := 420) (by decide +kernel) rfl⟩
theorem fl_RX0_9 : FL RX0 9 0 0 := ⟨by decide, by decide, gt_in (i := 143) (by decide +kernel) rfl⟩
theorem fl_RX0_33 : FL RX0 33 0 1 := ⟨by decide, by decide, gt_in (i := 145) (by decide +kernel) rfl⟩
theorem fl_RX0_39 : FL RX0 39 0 2 := ⟨by decide, by decide, gt_in (i := 146) (by decide +kernel) rfl⟩
theorem fl_RX0_46 : FL RX0 46 0 3 := ⟨by decide, by decide, gt_in (i := 147) (by decide +kernel) rfl⟩
theorem fl_RX0_50 : FL RX0 50 0 4 := ⟨by decide, by decide, gt_in (i := 148) (by decide +kernel) rfl⟩
theorem fl_RX0_54 : FL RX0 54 0 5 := ⟨by decide, by decide, gt_in (i := 149) (by decide +kernel) rfl⟩
theorem fl_RX0_58 : FL RX0 58 5 10 := ⟨by decide, by decide, gt_in (i := 65) (by decide +kernel) rfl⟩
theorem fl_RX0_63 : FL RX0 63 0 6 := ⟨by decide, by decide, gt_in (i := 150) (by decide +kernel) rfl⟩
theorem fl_RX0_64 : FL RX0 64 0 7 := ⟨by decide, by decide, gt_in (i := 151) (by decide +kernel) rfl⟩
theorem fl_RX0_67 : FL RX0 67 0 8 := ⟨by decide, by decide, gt_in (i := 152) (by decide +kernel) rfl⟩
theorem fl_RX0_70 : FL RX0 70 5 8 := ⟨by decide, by decide, gt_in (i := 60) (by decide +kernel) rfl⟩
theorem fl_RX0_73 : FL RX0 73 5 6 := ⟨by decide, by decide, gt_in (i := 53) (by decide +kernel) rfl⟩
theorem fl_RX0_75 : FL RX0 75 5 7 := ⟨by decide, by decide, gt_in (i := 56) (by decide +kernel) rfl⟩
theorem fl_RX0_78 : FL RX0 78 5 5 := ⟨by decide, by decide, gt_in (i := 51) (by decide +kernel) rfl⟩
theorem fl_RX0_85 : FL RX0 85 5 0 := ⟨by decide, by decide, gt_in (i := 36) (by decide +kernel) rfl⟩
theorem fl_RX0_88 : FL RX0 88 5 4 := ⟨by decide, by decide, gt_in (i := 47) (by decide +kernel) rfl⟩
theorem fl_RX0_108 : FL RX0 108 5 1 := ⟨by decide, by decide, gt_in (i := 38) (by decide +kernel) rfl⟩
theorem fl_RX0_115 : FL RX0 115 5 2 := ⟨by decide, by decide, gt_in (i := 41) (by decide +kernel) rfl⟩
theorem fl_RX0_132 : FL RX0 132 5 3 := ⟨by decide, by decide, gt_in (i := 44) (by decide +kernel) rfl⟩
theorem fl_RX4_9 : FL RX4 9 4 1 := ⟨by decide, by decide, gt_in (i := 396) (by decide +kernel) rfl⟩
theorem fl_RX4_24 : FL RX4 24 4 0 := ⟨by decide, by decide, gt_in (i := 395) (by decide +kernel) rfl⟩
theorem fl_RX4_27 : FL RX4 27 4 2 := ⟨by decide, by decide, gt_in (i := 397) (by decide +kernel) rfl⟩
theorem fl_RX4_30 : FL RX4 30 4 3 := ⟨by decide, by decide, gt_in (i := 398) (by decide +kernel) rfl⟩
theorem fl_RX5_9 : FL RX5 9 5 0 := ⟨by decide, by decide, gt_in (i := 34) (by decide +kernel) rfl⟩
theorem fl_RX5_15 : FL RX5 15 5 1 := ⟨by decide, by decide, gt_in (i := 37) (by decide +kernel) rfl⟩
theorem fl_RX5_18 : FL RX5 18 5 2 := ⟨by decide, by decide, gt_in (i := 40) (by decide +kernel) rfl⟩
theorem fl_RX5_21 : FL RX5 21 5 3 := ⟨by decide, by decide, gt_in (i := 43) (by decide +kernel) rfl⟩
theorem fl_RX5_24 : FL RX5 24 5 4 := ⟨by decide, by decide, gt_in (i := 46) (by decide +kernel) rfl⟩
theorem fl_RX5_27 : FL RX5 27 5 6 := ⟨by decide, by decide, gt_in (i := 52) (by decide +kernel) rfl⟩
theorem fl_RX5_30 : FL RX5 30 5 7 := ⟨by decide, by decide, gt_in (i := 55) (by decide +kernel) rfl⟩
theorem fl_RX5_33 : FL RX5 33 5 9 := ⟨by decide, by decide, gt_in (i := 61) (by decide +kernel) rfl⟩
theorem fl_RX5_43 : FL RX5 43 5 5 := ⟨by decide, by decide, gt_in (i := 50) (by decide +kernel) rfl⟩
theorem fl_RX5_46 : FL RX5 46 5 8 := ⟨by decide, by decide, gt_in (i := 59) (by decide +kernel) rfl⟩
theorem fl_RX5_49 : FL RX5 49 5 10 := ⟨by decide, by decide, gt_in (i := 64) (by decide +kernel) rfl⟩
theorem fl_RX5_52 : FL RX5 52 5 11 := ⟨by decide, by decide, gt_in (i := 67) (by decide +kernel) rfl⟩
theorem fl_RX6_9 : FL RX6 9 6 2 := ⟨by decide, by decide, gt_in (i := 182) (by decide +kernel) rfl⟩
theorem fl_RX6_15 : FL RX6 15 6 3 := ⟨by decide, by decide, gt_in (i := 183) (by decide +kernel) rfl⟩
theorem fl_RX6_18 : FL RX6 18 6 4 := ⟨by decide, by decide, gt_in (i := 184) (by decide +kernel) rfl⟩
theorem fl_RX6_21 : FL RX6 21 6 0 := ⟨by decide, by decide, gt_in (i := 178) (by decide +kernel) rfl⟩
theorem fl_RX6_25 : FL RX6 25 6 5 := ⟨by decide, by decide, gt_in (i := 185) (by decide +kernel) rfl⟩
theorem fl_RX6_28 : FL RX6 28 6 9 := ⟨by decide, by decide, gt_in (i := 189) (by decide +kernel) rfl⟩
theorem fl_RX6_31 : FL RX6 31 6 8 := ⟨by decide, by decide, gt_in (i := 188) (by decide +kernel) rfl⟩
theorem fl_RX6_37 : FL RX6 37 6 6 := ⟨by decide, by decide, gt_in (i := 186) (by decide +kernel) rfl⟩
theorem fl_RX6_49 : FL RX6 49 6 1 := ⟨by decide, by decide, gt_in (i := 180) (by decide +kernel) rfl⟩
theorem fl_RX6_78 : FL RX6 78 6 7 := ⟨by decide, by decide, gt_in (i := 187) (by decide +kernel) rfl⟩
theorem fl_RX7_9 : FL RX7 9 7 0 := ⟨by decide, by decide, gt_in (i := 220) (by decide +kernel) rfl⟩
theorem fl_RX7_15 : FL RX7 15 7 1 := ⟨by decide, by decide, gt_in (i := 222) (by decide +kernel) rfl⟩
theorem fl_RX7_19 : FL RX7 19 7 2 := ⟨by decide, by decide, gt_in (i := 224) (by decide +kernel) rfl⟩
theorem fl_RX12_7 : FL RX12 7 12 0 := ⟨by decide, by decide, gt_in (i := 938) (by decide +kernel) rfl⟩
theorem fl_RX12_13 : FL RX12 13 12 1 := ⟨by decide, by decide, gt_in (i := 939) (by decide +kernel) rfl⟩
theorem fl_RX12_17 : FL RX12 17 12 4 := ⟨by decide, by decide, gt_in (i := 942) (by decide +kernel) rfl⟩
theorem fl_RX12_20 : FL RX12 20 12 5 := ⟨by decide, by decide, gt_in (i := 943) (by decide +kernel) rfl⟩
theorem fl_RX12_23 : FL RX12 23 12 6 := ⟨by decide, by decide, gt_in (i := 944) (by decide +kernel) rfl⟩
theorem fl_RX12_26 : FL RX12 26 12 7 := ⟨by decide, by decide, gt_in (i := 945) (by decide +kernel) rfl⟩
theorem fl_RX12_29 : FL RX12 29 12 8 := ⟨by decide, by decide, gt_in (i := 946) (by decide +kernel) rfl⟩
theorem fl_RX12_32 : FL RX12 32 12 9 := ⟨by decide, by decide, gt_in (i := 947) (by decide +kernel) rfl⟩
theorem fl_RX12_35 : FL RX12 35 12 11 := ⟨by decide, by decide, gt_in (i := 949) (by decide +kernel) rfl⟩
theorem fl_RX12_38 : FL RX12 38 12 13 := ⟨by decide, by decide, gt_in (i := 951) (by decide +kernel) rfl⟩
theorem fl_RX12_41 : FL RX12 41 12 14 := ⟨by decide, by decide, gt_in (i := 952) (by decide +kernel) rfl⟩
theorem fl_RX12_44 : FL RX12 44 12 23 := ⟨by decide, by decide, gt_in (i := 961) (by decide +kernel) rfl⟩
theorem fl_RX12_47 : FL RX12 47 12 24 := ⟨by decide, by decide, gt_in (i := 962) (by decide +kernel) rfl⟩
theorem fl_RX12_50 : FL RX12 50 12 25 := ⟨by decide, by decide, gt_in (i := 963) (by decide +kernel) rfl⟩
theorem fl_RX12_53 : FL RX12 53 12 26 := ⟨by decide, by decide, gt_in (i := 964) (by decide +kernel) rfl⟩
theorem fl_RX12_56 : FL RX12 56 12 27 := ⟨by decide, by decide, gt_in (i := 965) (by decide +kernel) rfl⟩
theorem fl_RX12_59 : FL RX12 59 12 32 := ⟨by decide, by decide, gt_in (i := 970) (by decide +kernel) rfl⟩
theorem fl_RX12_62 : FL RX12 62 12 33 := ⟨by decide, by decide, gt_in (i := 971) (by decide +kernel) rfl⟩
theorem fl_RX12_65 : FL RX12 65 12 37 := ⟨by decide, by decide, gt_in (i := 975) (by decide +kernel) rfl⟩
theorem fl_RX12_68 : FL RX12 68 12 38 := ⟨by decide, by decide, gt_in (i := 976) (by decide +kernel) rfl⟩
theorem fl_RX12_71 : FL RX12 71 12 39 := ⟨by decide, by decide, gt_in (i := 977) (by decide +kernel) rfl⟩
theorem fl_RX12_74 : FL RX12 74 12 40 := ⟨by decide, by decide, gt_in (i := 978) (by decide +kernel) rfl⟩
theorem fl_RX12_77 : FL RX12 77 12 41 := ⟨by decide, by decide, gt_in (i := 979) (by decide +kernel) rfl⟩
theorem fl_RX12_80 : FL RX12 80 12 44 := ⟨by decide, by decide, gt_in (i := 982) (by decide +kernel) rfl⟩
theorem fl_RX12_83 : FL RX12 83 12 12 := ⟨by decide, by decide, gt_in (i := 950) (by decide +kernel) rfl⟩
theorem fl_RX12_90 : FL RX12 90 12 3 := ⟨by decide, by decide, gt_in (i := 941) (by decide +kernel) rfl⟩
theorem fl_RX12_97 : FL RX12 97 12 2 := ⟨by decide, by decide, gt_in (i := 940) (by decide +kernel) rfl⟩
theorem fl_RX12_100 : FL RX12 100 12 10 := ⟨by decide, by decide, gt_in (i := 948) (by decide +kernel) rfl⟩
theorem fl_RX12_103 : FL RX12 103 12 15 := ⟨by decide, by decide, gt_in (i := 953) (by decide +kernel) rfl⟩
theorem fl_RX12_106 : FL RX12 106 12 16 := ⟨by decide, by decide, gt_in (i := 954) (by decide +kernel) rfl⟩
theorem fl_RX12_120 : FL RX12 120 12 28 := ⟨by decide, by decide, gt_in (i := 966) (by decide +kernel) rfl⟩
theorem fl_RX12_123 : FL RX12 123 12 29 := ⟨by decide, by decide, gt_in (i := 967) (by decide +kernel) rfl⟩
theorem fl_RX12_126 : FL RX12 126 12 30 := ⟨by decide, by decide, gt_in (i := 968) (by decide +kernel) rfl⟩
theorem fl_RX12_129 : FL RX12 129 12 31 := ⟨by decide, by decide, gt_in (i := 969) (by decide +kernel) rfl⟩
theorem fl_RX12_135 : FL RX12 135 12 36 := ⟨by decide, by decide, gt_in (i := 974) (by decide +kernel) rfl⟩
theorem fl_RX12_138 : FL RX12 138 12 34 := ⟨by decide, by decide, gt_in (i := 972) (by decide +kernel) rfl⟩
theorem fl_RX12_145 : FL RX12 145 12 35 := ⟨by decide, by decide, gt_in (i := 973) (by decide +kernel) rfl⟩
theorem fl_RX12_241 : FL RX12 241 12 42 := ⟨by decide, by decide, gt_in (i := 980) (by decide +kernel) rfl⟩
theorem fl_RX12_260 : FL RX12 260 12 43 := ⟨by decide, by decide, gt_in (i := 981) (by decide +kernel) rfl⟩
theorem fl_RX12_298 : FL RX12 298 12 17 := ⟨by decide, by decide, gt_in (i := 955) (by decide +kernel) rfl⟩
theorem fl_RX12_302 : FL RX12 302 12 18 := ⟨by decide, by decide, gt_in (i := 956) (by decide +kernel) rfl⟩
theorem fl_RX12_305 : FL RX12 305 12 19 := ⟨by decide, by decide, gt_in (i := 957) (by decide +kernel) rfl⟩
theorem fl_RX12_308 : FL RX12 308 12 20 := ⟨by decide, by decide, gt_in (i := 958) (by decide +kernel) rfl⟩
theorem fl_RX12_311 : FL RX12 311 12 21 := ⟨by decide, by decide, gt_in (i := 959) (by decide +kernel) rfl⟩
theorem fl_RX12_314 : FL RX12 314 12 22 := ⟨by decide, by decide, gt_in (i := 960) (by decide +kernel) rfl⟩
theorem ml_RX11_1 : Cond.methodLink RX11 1 Lib.objectInit ∈ gt := gt_in (i := 25) (by decide +kernel) rfl
theorem ml_RX11_9 : Cond.methodLink RX11 9 yX5_init ∈ gt := gt_in (i := 30) (by decide +kernel) rfl
theorem ml_RX11_51 : Cond.methodLink RX11 51 yJ0_length_8abf5 ∈ gt := gt_in (i := 234) (by decide +kernel) rfl
theorem ml_RX11_57 : Cond.methodLink RX11 57 yJ0_charAt_5068e ∈ gt := gt_in (i := 244) (by decide +kernel) rfl
theorem ml_RX11_61 : Cond.methodLink RX11 61 yX6_take ∈ gt := gt_in (i := 282) (by decide +kernel) rfl
theorem ml_RX11_65 : Cond.methodLink RX11 65 yX11_readText ∈ gt := gt_in (i := 286) (by decide +kernel) rfl
theorem ml_RX11_90 : Cond.methodLink RX11 90 yX11_setHot ∈ gt := gt_in (i := 454) (by decide +kernel) rfl
theorem ml_RX11_94 : Cond.methodLink RX11 94 yX11_setTime ∈ gt := gt_in (i := 461) (by decide +kernel) rfl
theorem ml_RX11_98 : Cond.methodLink RX11 98 yX11_setLies ∈ gt := gt_in (i := 465) (by decide +kernel) rfl
theorem ml_RX11_101 : Cond.methodLink RX11 101 yX11_within ∈ gt := gt_in (i := 458) (by decide +kernel) rfl
theorem ml_RX11_109 : Cond.methodLink RX11 109 yX11_spotUnder ∈ gt := gt_in (i := 477) (by decide +kernel) rfl
theorem ml_RX11_112 : Cond.methodLink RX11 112 yX11_isByte ∈ gt := gt_in (i := 484) (by decide +kernel) rfl
theorem ml_RX11_116 : Cond.methodLink RX11 116 yX6_read ∈ gt := gt_in (i := 290) (by decide +kernel) rfl
theorem ml_RX11_123 : Cond.methodLink RX11 123 yX6_law ∈ gt := gt_in (i := 379) (by decide +kernel) rfl
theorem ml_RX11_126 : Cond.methodLink RX11 126 yX11_isCake ∈ gt := gt_in (i := 499) (by decide +kernel) rfl
theorem ml_RX11_129 : Cond.methodLink RX11 129 yX11_startBaking ∈ gt := gt_in (i := 503) (by decide +kernel) rfl
theorem ml_RX11_133 : Cond.methodLink RX11 133 yX0_name ∈ gt := gt_in (i := 511) (by decide +kernel) rfl
theorem ml_RX11_137 : Cond.methodLink RX11 137 yX0_ask ∈ gt := gt_in (i := 515) (by decide +kernel) rfl
theorem ml_RX11_140 : Cond.methodLink RX11 140 yX5_cakeOn ∈ gt := gt_in (i := 538) (by decide +kernel) rfl
theorem ml_RX11_155 : Cond.methodLink RX11 155 yX0_kindOf ∈ gt := gt_in (i := 550) (by decide +kernel) rfl
theorem ml_RX11_159 : Cond.methodLink RX11 159 yX3_begins ∈ gt := gt_in (i := 555) (by decide +kernel) rfl
theorem ml_RX11_167 : Cond.methodLink RX11 167 yX5_plan ∈ gt := gt_in (i := 575) (by decide +kernel) rfl
theorem ml_RX11_174 : Cond.methodLink RX11 174 yX11_bake ∈ gt := gt_in (i := 591) (by decide +kernel) rfl
theorem ml_RX11_181 : Cond.methodLink RX11 181 yX0_badness ∈ gt := gt_in (i := 633) (by decide +kernel) rfl
theorem ml_RX11_184 : Cond.methodLink RX11 184 yX0_apart ∈ gt := gt_in (i := 667) (by decide +kernel) rfl
theorem ml_RX11_187 : Cond.methodLink RX11 187 yX0_brownest ∈ gt := gt_in (i := 679) (by decide +kernel) rfl
theorem ml_RX11_190 : Cond.methodLink RX11 190 yX0_palest ∈ gt := gt_in (i := 680) (by decide +kernel) rfl
theorem ml_RX11_193 : Cond.methodLink RX11 193 yX0_right ∈ gt := gt_in (i := 681) (by decide +kernel) rfl
theorem ml_RX11_196 : Cond.methodLink RX11 196 yX0_away ∈ gt := gt_in (i := 689) (by decide +kernel) rfl
theorem ml_RX11_199 : Cond.methodLink RX11 199 yX0_badnessOf ∈ gt := gt_in (i := 690) (by decide +kernel) rfl
theorem ml_RX11_202 : Cond.methodLink RX11 202 yX11_imagine ∈ gt := gt_in (i := 695) (by decide +kernel) rfl
theorem ml_RX11_205 : Cond.methodLink RX11 205 yX11_weighNone ∈ gt := gt_in (i := 706) (by decide +kernel) rfl
theorem ml_RX11_208 : Cond.methodLink RX11 208 yX11_apartOf ∈ gt := gt_in (i := 710) (by decide +kernel) rfl
theorem ml_RX11_212 : Cond.methodLink RX11 212 yX11_badnessOf ∈ gt := gt_in (i := 714) (by decide +kernel) rfl
theorem ml_RX11_214 : Cond.methodLink RX11 214 yX11_weigh ∈ gt := gt_in (i := 718) (by decide +kernel) rfl
theorem ml_RX11_218 : Cond.methodLink RX11 218 yX11_lightest ∈ gt := gt_in (i := 722) (by decide +kernel) rfl
theorem ml_RX11_221 : Cond.methodLink RX11 221 yX0_step ∈ gt := gt_in (i := 595) (by decide +kernel) rfl
theorem ml_RX11_224 : Cond.methodLink RX11 224 yX11_weighOut ∈ gt := gt_in (i := 738) (by decide +kernel) rfl
theorem ml_RX11_230 : Cond.methodLink RX11 230 yX5_swapPlaces ∈ gt := gt_in (i := 770) (by decide +kernel) rfl
theorem ml_RX11_233 : Cond.methodLink RX11 233 yX11_refusal ∈ gt := gt_in (i := 782) (by decide +kernel) rfl
theorem ml_RX11_236 : Cond.methodLink RX11 236 yX11_firstOtherwise ∈ gt := gt_in (i := 786) (by decide +kernel) rfl
theorem ml_RX11_242 : Cond.methodLink RX11 242 yX7_become ∈ gt := gt_in (i := 819) (by decide +kernel) rfl
theorem ml_RX11_245 : Cond.methodLink RX11 245 yX7_put ∈ gt := gt_in (i := 823) (by decide +kernel) rfl
theorem ml_RX11_249 : Cond.methodLink RX11 249 yX11_imagineDrawn ∈ gt := gt_in (i := 832) (by decide +kernel) rfl
theorem ml_RX11_252 : Cond.methodLink RX11 252 yX11_commonDivisor ∈ gt := gt_in (i := 843) (by decide +kernel) rfl
theorem ml_RX11_255 : Cond.methodLink RX11 255 yJ9_max_7cf53 ∈ gt := gt_in (i := 846) (by decide +kernel) rfl
theorem ml_RX11_260 : Cond.methodLink RX11 260 yX5_become ∈ gt := gt_in (i := 699) (by decide +kernel) rfl
theorem ml_RX11_273 : Cond.methodLink RX11 273 arraycopyName ∈ gt := gt_in (i := 867) (by decide +kernel) rfl
theorem ml_RX11_279 : Cond.methodLink RX11 279 yX7_cellAt ∈ gt := gt_in (i := 790) (by decide +kernel) rfl
theorem ml_RX11_282 : Cond.methodLink RX11 282 yX11_cake ∈ gt := gt_in (i := 872) (by decide +kernel) rfl
theorem ml_RX11_286 : Cond.methodLink RX11 286 yX11_isOf ∈ gt := gt_in (i := 877) (by decide +kernel) rfl
theorem ml_RX11_306 : Cond.methodLink RX11 306 yX0_start ∈ gt := gt_in (i := 507) (by decide +kernel) rfl
theorem ml_RX0_3 : Cond.methodLink RX0 3 Lib.objectInit ∈ gt := gt_in (i := 99) (by decide +kernel) rfl
theorem ml_RX0_81 : Cond.methodLink RX0 81 yX0_bakeOne ∈ gt := gt_in (i := 599) (by decide +kernel) rfl
theorem ml_RX0_95 : Cond.methodLink RX0 95 yX0_name ∈ gt := gt_in (i := 604) (by decide +kernel) rfl
theorem ml_RX0_99 : Cond.methodLink RX0 99 yX0_ask ∈ gt := gt_in (i := 605) (by decide +kernel) rfl
theorem ml_RX0_103 : Cond.methodLink RX0 103 yJ9_max_7cf53 ∈ gt := gt_in (i := 606) (by decide +kernel) rfl
theorem ml_RX0_111 : Cond.methodLink RX0 111 yX0_kindOf ∈ gt := gt_in (i := 607) (by decide +kernel) rfl
theorem ml_RX0_118 : Cond.methodLink RX0 118 yX3_begins ∈ gt := gt_in (i := 608) (by decide +kernel) rfl
theorem ml_RX0_121 : Cond.methodLink RX0 121 yX3_gains ∈ gt := gt_in (i := 609) (by decide +kernel) rfl
theorem ml_RX0_125 : Cond.methodLink RX0 125 yJ9_min_7cf53 ∈ gt := gt_in (i := 628) (by decide +kernel) rfl
theorem ml_RX0_128 : Cond.methodLink RX0 128 yX4_says ∈ gt := gt_in (i := 519) (by decide +kernel) rfl
theorem ml_RX0_135 : Cond.methodLink RX0 135 yX3_away ∈ gt := gt_in (i := 649) (by decide +kernel) rfl
theorem ml_RX0_138 : Cond.methodLink RX0 138 yX0_away ∈ gt := gt_in (i := 645) (by decide +kernel) rfl
theorem ml_RX0_140 : Cond.methodLink RX0 140 yX0_cakes ∈ gt := gt_in (i := 637) (by decide +kernel) rfl
theorem ml_RX0_143 : Cond.methodLink RX0 143 yX0_badnessOf ∈ gt := gt_in (i := 641) (by decide +kernel) rfl
theorem ml_RX0_146 : Cond.methodLink RX0 146 yX0_brownest ∈ gt := gt_in (i := 671) (by decide +kernel) rfl
theorem ml_RX0_149 : Cond.methodLink RX0 149 yX0_palest ∈ gt := gt_in (i := 675) (by decide +kernel) rfl
theorem ml_RX1_7 : Cond.methodLink RX1 7 yX9_begins ∈ gt := gt_in (i := 562) (by decide +kernel) rfl
theorem ml_RX2_7 : Cond.methodLink RX2 7 yX3_away ∈ gt := gt_in (i := 657) (by decide +kernel) rfl
theorem ml_RX3_1 : Cond.methodLink RX3 1 Lib.objectInit ∈ gt := gt_in (i := 106) (by decide +kernel) rfl
theorem ml_RX4_3 : Cond.methodLink RX4 3 Lib.objectInit ∈ gt := gt_in (i := 388) (by decide +kernel) rfl
theorem ml_RX4_15 : Cond.methodLink RX4 15 yJ9_min_7cf53 ∈ gt := gt_in (i := 389) (by decide +kernel) rfl
theorem ml_RX4_21 : Cond.methodLink RX4 21 yJ9_max_7cf53 ∈ gt := gt_in (i := 392) (by decide +kernel) rfl
theorem ml_RX4_34 : Cond.methodLink RX4 34 yX4_push ∈ gt := gt_in (i := 523) (by decide +kernel) rfl
theorem ml_RX4_38 : Cond.methodLink RX4 38 yX4_pop ∈ gt := gt_in (i := 527) (by decide +kernel) rfl
theorem ml_RX4_42 : Cond.methodLink RX4 42 yX4_joined ∈ gt := gt_in (i := 531) (by decide +kernel) rfl
theorem ml_RX5_3 : Cond.methodLink RX5 3 Lib.objectInit ∈ gt := gt_in (i := 33) (by decide +kernel) rfl
theorem ml_RX5_37 : Cond.methodLink RX5 37 arraycopyName ∈ gt := gt_in (i := 703) (by decide +kernel) rfl
theorem ml_RX6_3 : Cond.methodLink RX6 3 Lib.objectInit ∈ gt := gt_in (i := 177) (by decide +kernel) rfl
theorem ml_RX6_34 : Cond.methodLink RX6 34 yX6_advance ∈ gt := gt_in (i := 294) (by decide +kernel) rfl
theorem ml_RX6_42 : Cond.methodLink RX6 42 yX6_readOr ∈ gt := gt_in (i := 339) (by decide +kernel) rfl
theorem ml_RX6_46 : Cond.methodLink RX6 46 yX4_init ∈ gt := gt_in (i := 385) (by decide +kernel) rfl
theorem ml_RX6_52 : Cond.methodLink RX6 52 yX6_byteAt ∈ gt := gt_in (i := 298) (by decide +kernel) rfl
theorem ml_RX6_56 : Cond.methodLink RX6 56 yX6_readWord ∈ gt := gt_in (i := 302) (by decide +kernel) rfl
theorem ml_RX6_59 : Cond.methodLink RX6 59 yX6_readNumber ∈ gt := gt_in (i := 331) (by decide +kernel) rfl
theorem ml_RX6_62 : Cond.methodLink RX6 62 yX6_readSign ∈ gt := gt_in (i := 335) (by decide +kernel) rfl
theorem ml_RX6_66 : Cond.methodLink RX6 66 yX6_endOf ∈ gt := gt_in (i := 306) (by decide +kernel) rfl
theorem ml_RX6_70 : Cond.methodLink RX6 70 yX6_word ∈ gt := gt_in (i := 310) (by decide +kernel) rfl
theorem ml_RX6_74 : Cond.methodLink RX6 74 yX6_isHere ∈ gt := gt_in (i := 325) (by decide +kernel) rfl
theorem ml_RX6_81 : Cond.methodLink RX6 81 yJ0_length_8abf5 ∈ gt := gt_in (i := 329) (by decide +kernel) rfl
theorem ml_RX6_87 : Cond.methodLink RX6 87 yJ0_charAt_5068e ∈ gt := gt_in (i := 330) (by decide +kernel) rfl
theorem ml_RX6_115 : Cond.methodLink RX6 115 yX6_readAnd ∈ gt := gt_in (i := 343) (by decide +kernel) rfl
theorem ml_RX6_118 : Cond.methodLink RX6 118 yX6_add ∈ gt := gt_in (i := 367) (by decide +kernel) rfl
theorem ml_RX6_121 : Cond.methodLink RX6 121 yX6_readNot ∈ gt := gt_in (i := 347) (by decide +kernel) rfl
theorem ml_RX6_124 : Cond.methodLink RX6 124 yX6_readCompared ∈ gt := gt_in (i := 351) (by decide +kernel) rfl
theorem ml_RX6_127 : Cond.methodLink RX6 127 yX6_readSum ∈ gt := gt_in (i := 355) (by decide +kernel) rfl
theorem ml_RX6_130 : Cond.methodLink RX6 130 yX6_readTerm ∈ gt := gt_in (i := 359) (by decide +kernel) rfl
theorem ml_RX6_133 : Cond.methodLink RX6 133 yX6_readOne ∈ gt := gt_in (i := 363) (by decide +kernel) rfl
theorem ml_RX6_136 : Cond.methodLink RX6 136 yX6_readNegative ∈ gt := gt_in (i := 371) (by decide +kernel) rfl
theorem ml_RX6_139 : Cond.methodLink RX6 139 yX6_readInner ∈ gt := gt_in (i := 375) (by decide +kernel) rfl
theorem ml_RX7_3 : Cond.methodLink RX7 3 Lib.objectInit ∈ gt := gt_in (i := 219) (by decide +kernel) rfl
theorem ml_RX8_7 : Cond.methodLink RX8 7 yX10_gains ∈ gt := gt_in (i := 621) (by decide +kernel) rfl
theorem ml_RX8_11 : Cond.methodLink RX8 11 ⟨"HotCorner$Thin", "away", "(II)I"⟩ ∈ gt := gt_in (i := 661) (by decide +kernel) rfl
theorem ml_RX9_7 : Cond.methodLink RX9 7 yX3_gains ∈ gt := gt_in (i := 616) (by decide +kernel) rfl
theorem ml_RX9_11 : Cond.methodLink RX9 11 yX3_begins ∈ gt := gt_in (i := 565) (by decide +kernel) rfl
theorem ml_RX10_7 : Cond.methodLink RX10 7 yX3_gains ∈ gt := gt_in (i := 624) (by decide +kernel) rfl
theorem ml_RL_9 : Cond.methodLink RL 9 yX11_init ∈ gt := gt_in (i := 22) (by decide +kernel) rfl
theorem ml_RL_12 : Cond.methodLink RL 12 yX12_init ∈ gt := gt_in (i := 887) (by decide +kernel) rfl
theorem ml_RL_13 : Cond.methodLink RL 13 yX11_count ∈ gt := gt_in (i := 446) (by decide +kernel) rfl
theorem ml_RL_17 : Cond.methodLink RL 17 yX12_count ∈ gt := gt_in (i := 1074) (by decide +kernel) rfl
theorem ml_RL_18 : Cond.methodLink RL 18 yX11_set ∈ gt := gt_in (i := 450) (by decide +kernel) rfl
theorem ml_RL_22 : Cond.methodLink RL 22 yX12_set ∈ gt := gt_in (i := 1078) (by decide +kernel) rfl
theorem ml_RL_23 : Cond.methodLink RL 23 yX11_hot ∈ gt := gt_in (i := 469) (by decide +kernel) rfl
theorem ml_RL_26 : Cond.methodLink RL 26 yX12_hot ∈ gt := gt_in (i := 1085) (by decide +kernel) rfl
theorem ml_RL_27 : Cond.methodLink RL 27 yX11_spot ∈ gt := gt_in (i := 473) (by decide +kernel) rfl
theorem ml_RL_31 : Cond.methodLink RL 31 yX12_spot ∈ gt := gt_in (i := 1089) (by decide +kernel) rfl
theorem ml_RL_32 : Cond.methodLink RL 32 yX11_feed ∈ gt := gt_in (i := 480) (by decide +kernel) rfl
theorem ml_RL_36 : Cond.methodLink RL 36 yX12_feed ∈ gt := gt_in (i := 1096) (by decide +kernel) rfl
theorem ml_RL_37 : Cond.methodLink RL 37 yX11_text ∈ gt := gt_in (i := 487) (by decide +kernel) rfl
theorem ml_RL_41 : Cond.methodLink RL 41 yX12_text ∈ gt := gt_in (i := 1103) (by decide +kernel) rfl
theorem ml_RL_42 : Cond.methodLink RL 42 yX11_force ∈ gt := gt_in (i := 491) (by decide +kernel) rfl
theorem ml_RL_45 : Cond.methodLink RL 45 yX12_force ∈ gt := gt_in (i := 1104) (by decide +kernel) rfl
theorem ml_RL_46 : Cond.methodLink RL 46 yX11_asks ∈ gt := gt_in (i := 495) (by decide +kernel) rfl
theorem ml_RL_50 : Cond.methodLink RL 50 yX12_asks ∈ gt := gt_in (i := 1108) (by decide +kernel) rfl
theorem ml_RL_51 : Cond.methodLink RL 51 yX11_cake ∈ gt := gt_in (i := 534) (by decide +kernel) rfl
theorem ml_RL_54 : Cond.methodLink RL 54 yX12_cake ∈ gt := gt_in (i := 1130) (by decide +kernel) rfl
theorem ml_RL_55 : Cond.methodLink RL 55 yX11_move ∈ gt := gt_in (i := 542) (by decide +kernel) rfl
theorem ml_RL_58 : Cond.methodLink RL 58 yX12_move ∈ gt := gt_in (i := 1138) (by decide +kernel) rfl
theorem ml_RL_59 : Cond.methodLink RL 59 yX11_told ∈ gt := gt_in (i := 546) (by decide +kernel) rfl
theorem ml_RL_62 : Cond.methodLink RL 62 yX12_told ∈ gt := gt_in (i := 1142) (by decide +kernel) rfl
theorem ml_RL_63 : Cond.methodLink RL 63 yX11_open ∈ gt := gt_in (i := 571) (by decide +kernel) rfl
theorem ml_RL_66 : Cond.methodLink RL 66 yX12_open ∈ gt := gt_in (i := 1150) (by decide +kernel) rfl
theorem ml_RL_67 : Cond.methodLink RL 67 yX11_opening ∈ gt := gt_in (i := 579) (by decide +kernel) rfl
theorem ml_RL_70 : Cond.methodLink RL 70 yX12_opening ∈ gt := gt_in (i := 1154) (by decide +kernel) rfl
theorem ml_RL_71 : Cond.methodLink RL 71 yX11_shut ∈ gt := gt_in (i := 583) (by decide +kernel) rfl
theorem ml_RL_74 : Cond.methodLink RL 74 yX12_shut ∈ gt := gt_in (i := 1158) (by decide +kernel) rfl
theorem ml_RL_75 : Cond.methodLink RL 75 yX11_at ∈ gt := gt_in (i := 587) (by decide +kernel) rfl
theorem ml_RL_78 : Cond.methodLink RL 78 yX12_at ∈ gt := gt_in (i := 1162) (by decide +kernel) rfl
theorem ml_RL_79 : Cond.methodLink RL 79 yX11_end ∈ gt := gt_in (i := 629) (by decide +kernel) rfl
theorem ml_RL_82 : Cond.methodLink RL 82 yX12_end ∈ gt := gt_in (i := 1190) (by decide +kernel) rfl
theorem ml_RL_83 : Cond.methodLink RL 83 yX11_off ∈ gt := gt_in (i := 685) (by decide +kernel) rfl
theorem ml_RL_86 : Cond.methodLink RL 86 yX12_off ∈ gt := gt_in (i := 1226) (by decide +kernel) rfl
theorem ml_RL_87 : Cond.methodLink RL 87 yX11_when ∈ gt := gt_in (i := 691) (by decide +kernel) rfl
theorem ml_RL_90 : Cond.methodLink RL 90 yX12_when ∈ gt := gt_in (i := 1230) (by decide +kernel) rfl
theorem ml_RL_91 : Cond.methodLink RL 91 yX11_twice ∈ gt := gt_in (i := 726) (by decide +kernel) rfl
theorem ml_RL_94 : Cond.methodLink RL 94 yX12_twice ∈ gt := gt_in (i := 1254) (by decide +kernel) rfl
theorem ml_RL_95 : Cond.methodLink RL 95 yX11_until ∈ gt := gt_in (i := 730) (by decide +kernel) rfl
theorem ml_RL_98 : Cond.methodLink RL 98 yX12_until ∈ gt := gt_in (i := 1258) (by decide +kernel) rfl
theorem ml_RL_99 : Cond.methodLink RL 99 yX11_out ∈ gt := gt_in (i := 734) (by decide +kernel) rfl
theorem ml_RL_102 : Cond.methodLink RL 102 yX12_out ∈ gt := gt_in (i := 1262) (by decide +kernel) rfl
theorem ml_RL_103 : Cond.methodLink RL 103 yX11_singly ∈ gt := gt_in (i := 742) (by decide +kernel) rfl
theorem ml_RL_106 : Cond.methodLink RL 106 yX12_singly ∈ gt := gt_in (i := 1270) (by decide +kernel) rfl
theorem ml_RL_107 : Cond.methodLink RL 107 yX11_soon ∈ gt := gt_in (i := 746) (by decide +kernel) rfl
theorem ml_RL_110 : Cond.methodLink RL 110 yX12_soon ∈ gt := gt_in (i := 1274) (by decide +kernel) rfl
theorem ml_RL_111 : Cond.methodLink RL 111 yX11_few ∈ gt := gt_in (i := 750) (by decide +kernel) rfl
theorem ml_RL_114 : Cond.methodLink RL 114 yX12_few ∈ gt := gt_in (i := 1278) (by decide +kernel) rfl
theorem ml_RL_115 : Cond.methodLink RL 115 yX11_fan ∈ gt := gt_in (i := 754) (by decide +kernel) rfl
theorem ml_RL_118 : Cond.methodLink RL 118 yX12_fan ∈ gt := gt_in (i := 1282) (by decide +kernel) rfl
theorem ml_RL_119 : Cond.methodLink RL 119 yX11_cost ∈ gt := gt_in (i := 758) (by decide +kernel) rfl
theorem ml_RL_122 : Cond.methodLink RL 122 yX12_cost ∈ gt := gt_in (i := 1294) (by decide +kernel) rfl
theorem ml_RL_123 : Cond.methodLink RL 123 yX11_lay ∈ gt := gt_in (i := 762) (by decide +kernel) rfl
theorem ml_RL_126 : Cond.methodLink RL 126 yX12_lay ∈ gt := gt_in (i := 1298) (by decide +kernel) rfl
theorem ml_RL_127 : Cond.methodLink RL 127 yX11_swap ∈ gt := gt_in (i := 766) (by decide +kernel) rfl
theorem ml_RL_130 : Cond.methodLink RL 130 yX12_swap ∈ gt := gt_in (i := 1302) (by decide +kernel) rfl
theorem ml_RL_131 : Cond.methodLink RL 131 yX11_which ∈ gt := gt_in (i := 774) (by decide +kernel) rfl
theorem ml_RL_134 : Cond.methodLink RL 134 yX12_which ∈ gt := gt_in (i := 1310) (by decide +kernel) rfl
theorem ml_RL_135 : Cond.methodLink RL 135 yX11_judge ∈ gt := gt_in (i := 778) (by decide +kernel) rfl
theorem ml_RL_138 : Cond.methodLink RL 138 yX12_judge ∈ gt := gt_in (i := 1314) (by decide +kernel) rfl
theorem ml_RL_139 : Cond.methodLink RL 139 yX11_how ∈ gt := gt_in (i := 794) (by decide +kernel) rfl
theorem ml_RL_142 : Cond.methodLink RL 142 yX12_how ∈ gt := gt_in (i := 1326) (by decide +kernel) rfl
theorem ml_RL_143 : Cond.methodLink RL 143 yX11_kinds ∈ gt := gt_in (i := 798) (by decide +kernel) rfl
theorem ml_RL_146 : Cond.methodLink RL 146 yX12_kinds ∈ gt := gt_in (i := 1330) (by decide +kernel) rfl
theorem ml_RL_147 : Cond.methodLink RL 147 yX11_heats ∈ gt := gt_in (i := 802) (by decide +kernel) rfl
theorem ml_RL_150 : Cond.methodLink RL 150 yX12_heats ∈ gt := gt_in (i := 1334) (by decide +kernel) rfl
theorem ml_RL_151 : Cond.methodLink RL 151 yX11_turned ∈ gt := gt_in (i := 806) (by decide +kernel) rfl
theorem ml_RL_155 : Cond.methodLink RL 155 yX12_turned ∈ gt := gt_in (i := 1338) (by decide +kernel) rfl
theorem ml_RL_156 : Cond.methodLink RL 156 yX11_laws ∈ gt := gt_in (i := 811) (by decide +kernel) rfl
theorem ml_RL_159 : Cond.methodLink RL 159 yX12_laws ∈ gt := gt_in (i := 1343) (by decide +kernel) rfl
theorem ml_RL_160 : Cond.methodLink RL 160 yX11_film ∈ gt := gt_in (i := 815) (by decide +kernel) rfl
theorem ml_RL_163 : Cond.methodLink RL 163 yX12_film ∈ gt := gt_in (i := 1347) (by decide +kernel) rfl
theorem ml_RL_164 : Cond.methodLink RL 164 yX11_drawn ∈ gt := gt_in (i := 827) (by decide +kernel) rfl
theorem ml_RL_167 : Cond.methodLink RL 167 yX12_drawn ∈ gt := gt_in (i := 1351) (by decide +kernel) rfl
theorem ml_RL_168 : Cond.methodLink RL 168 yX11_odds ∈ gt := gt_in (i := 839) (by decide +kernel) rfl
theorem ml_RL_172 : Cond.methodLink RL 172 yX12_odds ∈ gt := gt_in (i := 1363) (by decide +kernel) rfl
theorem ml_RL_173 : Cond.methodLink RL 173 yX11_image ∈ gt := gt_in (i := 847) (by decide +kernel) rfl
theorem ml_RL_176 : Cond.methodLink RL 176 yX12_image ∈ gt := gt_in (i := 1370) (by decide +kernel) rfl
theorem ml_RL_177 : Cond.methodLink RL 177 yX11_back ∈ gt := gt_in (i := 851) (by decide +kernel) rfl
theorem ml_RL_180 : Cond.methodLink RL 180 yX12_back ∈ gt := gt_in (i := 1374) (by decide +kernel) rfl
theorem ml_RL_181 : Cond.methodLink RL 181 yX11_sheet ∈ gt := gt_in (i := 855) (by decide +kernel) rfl
theorem ml_RL_184 : Cond.methodLink RL 184 yX12_sheet ∈ gt := gt_in (i := 1378) (by decide +kernel) rfl
theorem ml_RL_185 : Cond.methodLink RL 185 yX11_cell ∈ gt := gt_in (i := 859) (by decide +kernel) rfl
theorem ml_RL_188 : Cond.methodLink RL 188 yX12_cell ∈ gt := gt_in (i := 1382) (by decide +kernel) rfl
theorem ml_RL_189 : Cond.methodLink RL 189 yX11_copy ∈ gt := gt_in (i := 863) (by decide +kernel) rfl
theorem ml_RL_193 : Cond.methodLink RL 193 yX12_copy ∈ gt := gt_in (i := 1386) (by decide +kernel) rfl
theorem ml_RL_194 : Cond.methodLink RL 194 yX11_cakesBy ∈ gt := gt_in (i := 868) (by decide +kernel) rfl
theorem ml_RL_197 : Cond.methodLink RL 197 yX12_cakesBy ∈ gt := gt_in (i := 1390) (by decide +kernel) rfl
theorem ml_RL_198 : Cond.methodLink RL 198 yX11_taken ∈ gt := gt_in (i := 873) (by decide +kernel) rfl
theorem ml_RL_201 : Cond.methodLink RL 201 yX12_taken ∈ gt := gt_in (i := 1395) (by decide +kernel) rfl
theorem ml_RX12_1 : Cond.methodLink RX12 1 Lib.objectInit ∈ gt := gt_in (i := 890) (by decide +kernel) rfl
theorem ml_RX12_86 : Cond.methodLink RX12 86 yX12_text ∈ gt := gt_in (i := 891) (by decide +kernel) rfl
theorem ml_RX12_93 : Cond.methodLink RX12 93 yX12_in ∈ gt := gt_in (i := 899) (by decide +kernel) rfl
theorem ml_RX12_109 : Cond.methodLink RX12 109 yX12_isSpot ∈ gt := gt_in (i := 1082) (by decide +kernel) rfl
theorem ml_RX12_113 : Cond.methodLink RX12 113 yX12_over ∈ gt := gt_in (i := 1093) (by decide +kernel) rfl
theorem ml_RX12_117 : Cond.methodLink RX12 117 yX12_isByte ∈ gt := gt_in (i := 1100) (by decide +kernel) rfl
theorem ml_RX12_132 : Cond.methodLink RX12 132 yX12_wordFrom ∈ gt := gt_in (i := 902) (by decide +kernel) rfl
theorem ml_RX12_141 : Cond.methodLink RX12 141 yX12_rank ∈ gt := gt_in (i := 919) (by decide +kernel) rfl
theorem ml_RX12_148 : Cond.methodLink RX12 148 yX12_puts ∈ gt := gt_in (i := 911) (by decide +kernel) rfl
theorem ml_RX12_152 : Cond.methodLink RX12 152 yX12_holds ∈ gt := gt_in (i := 926) (by decide +kernel) rfl
theorem ml_RX12_155 : Cond.methodLink RX12 155 yX12_unwinds ∈ gt := gt_in (i := 915) (by decide +kernel) rfl
theorem ml_RX12_158 : Cond.methodLink RX12 158 yX12_next ∈ gt := gt_in (i := 895) (by decide +kernel) rfl
theorem ml_RX12_162 : Cond.methodLink RX12 162 yX12_opensOne ∈ gt := gt_in (i := 922) (by decide +kernel) rfl
theorem ml_RX12_165 : Cond.methodLink RX12 165 yX12_signOf ∈ gt := gt_in (i := 930) (by decide +kernel) rfl
theorem ml_RX12_168 : Cond.methodLink RX12 168 yX12_between ∈ gt := gt_in (i := 934) (by decide +kernel) rfl
theorem ml_RX12_171 : Cond.methodLink RX12 171 yX12_eRead ∈ gt := gt_in (i := 906) (by decide +kernel) rfl
theorem ml_RX12_175 : Cond.methodLink RX12 175 yX12_two ∈ gt := gt_in (i := 1124) (by decide +kernel) rfl
theorem ml_RX12_179 : Cond.methodLink RX12 179 yX12_says ∈ gt := gt_in (i := 1120) (by decide +kernel) rfl
theorem ml_RX12_182 : Cond.methodLink RX12 182 yX12_within ∈ gt := gt_in (i := 1127) (by decide +kernel) rfl
theorem ml_RX12_185 : Cond.methodLink RX12 185 yX12_isCake ∈ gt := gt_in (i := 1112) (by decide +kernel) rfl
theorem ml_RX12_188 : Cond.methodLink RX12 188 yX12_asksOf ∈ gt := gt_in (i := 1116) (by decide +kernel) rfl
theorem ml_RX12_192 : Cond.methodLink RX12 192 yX12_whoOn ∈ gt := gt_in (i := 1134) (by decide +kernel) rfl
theorem ml_RX12_195 : Cond.methodLink RX12 195 yX12_beginsAt ∈ gt := gt_in (i := 1146) (by decide +kernel) rfl
theorem ml_RX12_198 : Cond.methodLink RX12 198 yX12_turnedBy ∈ gt := gt_in (i := 1182) (by decide +kernel) rfl
theorem ml_RX12_201 : Cond.methodLink RX12 201 yX12_lastBy ∈ gt := gt_in (i := 1174) (by decide +kernel) rfl
theorem ml_RX12_204 : Cond.methodLink RX12 204 yX12_heatFor ∈ gt := gt_in (i := 1178) (by decide +kernel) rfl
theorem ml_RX12_208 : Cond.methodLink RX12 208 yX12_browner ∈ gt := gt_in (i := 1186) (by decide +kernel) rfl
theorem ml_RX12_211 : Cond.methodLink RX12 211 yX12_bakesOne ∈ gt := gt_in (i := 1170) (by decide +kernel) rfl
theorem ml_RX12_214 : Cond.methodLink RX12 214 yX12_offBy ∈ gt := gt_in (i := 1206) (by decide +kernel) rfl
theorem ml_RX12_217 : Cond.methodLink RX12 217 yX12_endOf ∈ gt := gt_in (i := 1198) (by decide +kernel) rfl
theorem ml_RX12_220 : Cond.methodLink RX12 220 yX12_badBy ∈ gt := gt_in (i := 1202) (by decide +kernel) rfl
theorem ml_RX12_223 : Cond.methodLink RX12 223 yX12_mostBrown ∈ gt := gt_in (i := 1214) (by decide +kernel) rfl
theorem ml_RX12_226 : Cond.methodLink RX12 226 yX12_leastBrown ∈ gt := gt_in (i := 1218) (by decide +kernel) rfl
theorem ml_RX12_229 : Cond.methodLink RX12 229 yX12_bakes ∈ gt := gt_in (i := 1166) (by decide +kernel) rfl
theorem ml_RX12_232 : Cond.methodLink RX12 232 yX12_badOfAll ∈ gt := gt_in (i := 1194) (by decide +kernel) rfl
theorem ml_RX12_235 : Cond.methodLink RX12 235 yX12_apart ∈ gt := gt_in (i := 1210) (by decide +kernel) rfl
theorem ml_RX12_238 : Cond.methodLink RX12 238 yX12_exact ∈ gt := gt_in (i := 1222) (by decide +kernel) rfl
theorem ml_RX12_244 : Cond.methodLink RX12 244 yX12_keepsPlan ∈ gt := gt_in (i := 1234) (by decide +kernel) rfl
theorem ml_RX12_247 : Cond.methodLink RX12 247 yX12_plans ∈ gt := gt_in (i := 1238) (by decide +kernel) rfl
theorem ml_RX12_251 : Cond.methodLink RX12 251 yX12_apartNow ∈ gt := gt_in (i := 1242) (by decide +kernel) rfl
theorem ml_RX12_254 : Cond.methodLink RX12 254 yX12_badNow ∈ gt := gt_in (i := 1246) (by decide +kernel) rfl
theorem ml_RX12_257 : Cond.methodLink RX12 257 yX12_laysPlan ∈ gt := gt_in (i := 1250) (by decide +kernel) rfl
theorem ml_RX12_263 : Cond.methodLink RX12 263 yX12_outOf ∈ gt := gt_in (i := 1266) (by decide +kernel) rfl
theorem ml_RX12_266 : Cond.methodLink RX12 266 yX12_keepsHot ∈ gt := gt_in (i := 1286) (by decide +kernel) rfl
theorem ml_RX12_269 : Cond.methodLink RX12 269 yX12_laysHot ∈ gt := gt_in (i := 1290) (by decide +kernel) rfl
theorem ml_RX12_272 : Cond.methodLink RX12 272 yX12_swaps ∈ gt := gt_in (i := 1306) (by decide +kernel) rfl
theorem ml_RX12_276 : Cond.methodLink RX12 276 yX12_sheetWrong ∈ gt := gt_in (i := 1318) (by decide +kernel) rfl
theorem ml_RX12_279 : Cond.methodLink RX12 279 yX12_unlike ∈ gt := gt_in (i := 1322) (by decide +kernel) rfl
theorem ml_RX12_291 : Cond.methodLink RX12 291 yX12_bakesBy ∈ gt := gt_in (i := 1356) (by decide +kernel) rfl
theorem ml_RX12_294 : Cond.methodLink RX12 294 yX12_lowest ∈ gt := gt_in (i := 1367) (by decide +kernel) rfl
theorem ml_RX12_317 : Cond.methodLink RX12 317 yX12_cake ∈ gt := gt_in (i := 1394) (by decide +kernel) rfl
theorem ml_RX12_320 : Cond.methodLink RX12 320 yX12_isUnder ∈ gt := gt_in (i := 1399) (by decide +kernel) rfl
theorem ml_RJ0_335 : Cond.methodLink RJ0 335 yJ0_coder_7d493 ∈ gt := gt_in (i := 238) (by decide +kernel) rfl
theorem ml_RJ0_492 : Cond.methodLink RJ0 492 yJ0_isLatin1_aae02 ∈ gt := gt_in (i := 248) (by decide +kernel) rfl
theorem ml_RJ0_495 : Cond.methodLink RJ0 495 yJ1_charAt_3b067 ∈ gt := gt_in (i := 252) (by decide +kernel) rfl
theorem ml_RJ0_498 : Cond.methodLink RJ0 498 yJ2_charAt_3b067 ∈ gt := gt_in (i := 263) (by decide +kernel) rfl
theorem ml_RJ0_1059 : Cond.methodLink RJ0 1059 yJ3_checkIndex_8e157 ∈ gt := gt_in (i := 260) (by decide +kernel) rfl
theorem ml_RJ1_9 : Cond.methodLink RJ1 9 yJ0_checkIndex_df160 ∈ gt := gt_in (i := 255) (by decide +kernel) rfl
theorem ml_RJ2_48 : Cond.methodLink RJ2 48 yJ2_length_9d52b ∈ gt := gt_in (i := 269) (by decide +kernel) rfl
theorem ml_RJ2_67 : Cond.methodLink RJ2 67 yJ2_checkIndex_2214a ∈ gt := gt_in (i := 266) (by decide +kernel) rfl
theorem ml_RJ2_71 : Cond.methodLink RJ2 71 yJ2_getChar_3b067 ∈ gt := gt_in (i := 273) (by decide +kernel) rfl
theorem ml_RJ2_414 : Cond.methodLink RJ2 414 yJ0_checkIndex_df160 ∈ gt := gt_in (i := 272) (by decide +kernel) rfl
theorem cl_RX11_7 : CLs RX11 7 5 := ⟨by decide, gt_in (i := 28) (by decide +kernel) rfl, (gt_in (i := 29) (by decide +kernel) rfl), (gt_in (i := 2) (by decide +kernel) rfl)⟩
theorem ck_RX11_7 : Cond.classLink RX11 7 "HotCorner$Oven" ∈ gt := gt_in (i := 28) (by decide +kernel) rfl
theorem cl_RX11_22 : CLs RX11 22 0 := ⟨by decide, gt_in (i := 94) (by decide +kernel) rfl, (gt_in (i := 95) (by decide +kernel) rfl), (gt_in (i := 3) (by decide +kernel) rfl)⟩
theorem ck_RX11_22 : Cond.classLink RX11 22 "HotCorner$Baking" ∈ gt := gt_in (i := 94) (by decide +kernel) rfl
theorem cl_RX11_29 : CLs RX11 29 6 := ⟨by decide, gt_in (i := 172) (by decide +kernel) rfl, (gt_in (i := 173) (by decide +kernel) rfl), (gt_in (i := 10) (by decide +kernel) rfl)⟩
theorem ck_RX11_29 : Cond.classLink RX11 29 "HotCorner$Reader" ∈ gt := gt_in (i := 172) (by decide +kernel) rfl
theorem cl_RX11_36 : CLs RX11 36 4 := ⟨by decide, gt_in (i := 211) (by decide +kernel) rfl, (gt_in (i := 384) (by decide +kernel) rfl), (gt_in (i := 16) (by decide +kernel) rfl)⟩
theorem ck_RX11_36 : Cond.classLink RX11 36 "HotCorner$Law" ∈ gt := gt_in (i := 211) (by decide +kernel) rfl
theorem cl_RX11_42 : CLs RX11 42 7 := ⟨by decide, gt_in (i := 213) (by decide +kernel) rfl, (gt_in (i := 215) (by decide +kernel) rfl), (gt_in (i := 11) (by decide +kernel) rfl)⟩
theorem ck_RX11_42 : Cond.classLink RX11 42 "HotCorner$Sheet" ∈ gt := gt_in (i := 213) (by decide +kernel) rfl
theorem cl_RX11_290 : CLs RX11 290 9 := ⟨by decide, gt_in (i := 880) (by decide +kernel) rfl, (gt_in (i := 109) (by decide +kernel) rfl), (gt_in (i := 5) (by decide +kernel) rfl)⟩
theorem ck_RX11_290 : Cond.classLink RX11 290 "HotCorner$Thick" ∈ gt := gt_in (i := 880) (by decide +kernel) rfl
theorem cl_RX11_292 : CLs RX11 292 10 := ⟨by decide, gt_in (i := 881) (by decide +kernel) rfl, (gt_in (i := 116) (by decide +kernel) rfl), (gt_in (i := 6) (by decide +kernel) rfl)⟩
theorem ck_RX11_292 : Cond.classLink RX11 292 "HotCorner$Thin" ∈ gt := gt_in (i := 881) (by decide +kernel) rfl
theorem cl_RX11_294 : CLs RX11 294 1 := ⟨by decide, gt_in (i := 882) (by decide +kernel) rfl, (gt_in (i := 123) (by decide +kernel) rfl), (gt_in (i := 7) (by decide +kernel) rfl)⟩
theorem ck_RX11_294 : Cond.classLink RX11 294 "HotCorner$Frozen" ∈ gt := gt_in (i := 882) (by decide +kernel) rfl
theorem cl_RX11_296 : CLs RX11 296 8 := ⟨by decide, gt_in (i := 883) (by decide +kernel) rfl, (gt_in (i := 130) (by decide +kernel) rfl), (gt_in (i := 8) (by decide +kernel) rfl)⟩
theorem ck_RX11_296 : Cond.classLink RX11 296 "HotCorner$Sugared" ∈ gt := gt_in (i := 883) (by decide +kernel) rfl
theorem cl_RX11_298 : CLs RX11 298 2 := ⟨by decide, gt_in (i := 884) (by decide +kernel) rfl, (gt_in (i := 137) (by decide +kernel) rfl), (gt_in (i := 9) (by decide +kernel) rfl)⟩
theorem ck_RX11_298 : Cond.classLink RX11 298 "HotCorner$Grandfathers" ∈ gt := gt_in (i := 884) (by decide +kernel) rfl
theorem cl_RX0_15 : CLs RX0 15 3 := ⟨by decide, gt_in (i := 100) (by decide +kernel) rfl, (gt_in (i := 102) (by decide +kernel) rfl), (gt_in (i := 4) (by decide +kernel) rfl)⟩
theorem ck_RX0_15 : Cond.classLink RX0 15 "HotCorner$Kind" ∈ gt := gt_in (i := 100) (by decide +kernel) rfl
theorem cl_RX0_18 : CLs RX0 18 9 := ⟨by decide, gt_in (i := 108) (by decide +kernel) rfl, (gt_in (i := 109) (by decide +kernel) rfl), (gt_in (i := 5) (by decide +kernel) rfl)⟩
theorem ck_RX0_18 : Cond.classLink RX0 18 "HotCorner$Thick" ∈ gt := gt_in (i := 108) (by decide +kernel) rfl
theorem cl_RX0_21 : CLs RX0 21 10 := ⟨by decide, gt_in (i := 115) (by decide +kernel) rfl, (gt_in (i := 116) (by decide +kernel) rfl), (gt_in (i := 6) (by decide +kernel) rfl)⟩
theorem ck_RX0_21 : Cond.classLink RX0 21 "HotCorner$Thin" ∈ gt := gt_in (i := 115) (by decide +kernel) rfl
theorem cl_RX0_24 : CLs RX0 24 1 := ⟨by decide, gt_in (i := 122) (by decide +kernel) rfl, (gt_in (i := 123) (by decide +kernel) rfl), (gt_in (i := 7) (by decide +kernel) rfl)⟩
theorem ck_RX0_24 : Cond.classLink RX0 24 "HotCorner$Frozen" ∈ gt := gt_in (i := 122) (by decide +kernel) rfl
theorem cl_RX0_27 : CLs RX0 27 8 := ⟨by decide, gt_in (i := 129) (by decide +kernel) rfl, (gt_in (i := 130) (by decide +kernel) rfl), (gt_in (i := 8) (by decide +kernel) rfl)⟩
theorem ck_RX0_27 : Cond.classLink RX0 27 "HotCorner$Sugared" ∈ gt := gt_in (i := 129) (by decide +kernel) rfl
theorem cl_RX0_30 : CLs RX0 30 2 := ⟨by decide, gt_in (i := 136) (by decide +kernel) rfl, (gt_in (i := 137) (by decide +kernel) rfl), (gt_in (i := 9) (by decide +kernel) rfl)⟩
theorem ck_RX0_30 : Cond.classLink RX0 30 "HotCorner$Grandfathers" ∈ gt := gt_in (i := 136) (by decide +kernel) rfl
theorem cl_RX6_40 : CLs RX6 40 4 := ⟨by decide, gt_in (i := 383) (by decide +kernel) rfl, (gt_in (i := 384) (by decide +kernel) rfl), (gt_in (i := 16) (by decide +kernel) rfl)⟩
theorem ck_RX6_40 : Cond.classLink RX6 40 "HotCorner$Law" ∈ gt := gt_in (i := 383) (by decide +kernel) rfl
theorem cl_RL_7 : CLs RL 7 11 := ⟨by decide, gt_in (i := 20) (by decide +kernel) rfl, (gt_in (i := 21) (by decide +kernel) rfl), (gt_in (i := 1) (by decide +kernel) rfl)⟩
theorem ck_RL_7 : Cond.classLink RL 7 "HotCorner" ∈ gt := gt_in (i := 20) (by decide +kernel) rfl
theorem cl_RL_10 : CLs RL 10 12 := ⟨by decide, gt_in (i := 885) (by decide +kernel) rfl, (gt_in (i := 886) (by decide +kernel) rfl), (gt_in (i := 18) (by decide +kernel) rfl)⟩
theorem ck_RL_10 : Cond.classLink RL 10 "HotCornerModel" ∈ gt := gt_in (i := 885) (by decide +kernel) rfl
theorem ob_i : Cond.instanceMethod Lib.objectInit ∈ gt := (gt_in (i := 26) (by decide +kernel) rfl)
theorem ob_c : Cond.code Lib.objectInit ⟨#[0xb1]⟩ 1 none ∈ gt := gt_in (i := 27) (by decide +kernel) rfl
theorem mt_max_s : Cond.static Lib.Math.max.name ∈ gt := (gt_in (i := 393) (by decide +kernel) rfl)
theorem mt_max_c : Cond.code Lib.Math.max.name Lib.Math.max.code 2 (some .int) ∈ gt := gt_in (i := 394) (by decide +kernel) rfl
theorem mt_min_s : Cond.static Lib.Math.min.name ∈ gt := (gt_in (i := 390) (by decide +kernel) rfl)
theorem mt_min_c : Cond.code Lib.Math.min.name Lib.Math.min.code 2 (some .int) ∈ gt := gt_in (i := 391) (by decide +kernel) rfl
theorem mt_i : Cond.initialized "java/lang/Math" ∈ gt := (gt_in (i := 17) (by decide +kernel) rfl)
theorem ac_n : Cond.native arraycopyName ∈ gt := (gt_in (i := 705) (by decide +kernel) rfl)
theorem ac_s : Cond.static arraycopyName ∈ gt := (gt_in (i := 704) (by decide +kernel) rfl)
theorem ac_i : Cond.initialized "java/lang/System" ∈ gt := (gt_in (i := 19) (by decide +kernel) rfl)
theorem ar_i : Cond.arrayClass .int ∈ gt := (gt_in (i := 93) (by decide +kernel) rfl)
