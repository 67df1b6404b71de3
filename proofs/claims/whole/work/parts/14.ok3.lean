/-! ===== the methods: their tables are right, their words; printed by wip/whole/mk12.py ===== -/
theorem okX6_takesPromise : OkM mX6_takesPromise := OkM.of (lks := lks_RX6) (N := 201) lkp_RX6 rfl (by decide +kernel)
theorem oyX6_takesPromise : OkY mX6_takesPromise 1 := ⟨gw_in (List.mem_of_getElem? (i := 1058) (by decide +kernel)) rfl, gw_in (List.mem_of_getElem? (i := 47) (by decide +kernel)) rfl, by decide +kernel, by decide⟩
theorem iyX6_takesPromise : Cond.instanceMethod yX6_takesPromise ∈ gw := gw_in (List.mem_of_getElem? (i := 1057) (by decide +kernel)) rfl
theorem seX6_takesPromise : Cond.selects RX6 yX6_takesPromise yX6_takesPromise ∈ gw := gw_in (List.mem_of_getElem? (i := 15) (by decide +kernel)) rfl
theorem okX1_readPromise : OkM mX1_readPromise := OkM.of (lks := lks_RX1) (N := 176) lkp_RX1 rfl (by decide +kernel)
theorem oyX1_readPromise : OkY mX1_readPromise 1 := ⟨gw_in (List.mem_of_getElem? (i := 433) (by decide +kernel)) rfl, gw_in (List.mem_of_getElem? (i := 44) (by decide +kernel)) rfl, by decide +kernel, by decide⟩
theorem iyX1_readPromise : Cond.instanceMethod yX1_readPromise ∈ gw := gw_in (List.mem_of_getElem? (i := 431) (by decide +kernel)) rfl
theorem seX1_readPromise : Cond.selects RX1 yX1_readPromise yX1_readPromise ∈ gw := gw_in (List.mem_of_getElem? (i := 432) (by decide +kernel)) rfl
theorem okX6_promise : OkM mX6_promise := OkM.of (lks := lks_RX6) (N := 150) lkp_RX6 rfl (by decide +kernel)
theorem oyX6_promise : OkY mX6_promise 4 := ⟨gw_in (List.mem_of_getElem? (i := 1072) (by decide +kernel)) rfl, gw_in (List.mem_of_getElem? (i := 47) (by decide +kernel)) rfl, by decide +kernel, by decide⟩
theorem iyX6_promise : Cond.instanceMethod yX6_promise ∈ gw := gw_in (List.mem_of_getElem? (i := 1070) (by decide +kernel)) rfl
theorem seX6_promise : Cond.selects RX6 yX6_promise yX6_promise ∈ gw := gw_in (List.mem_of_getElem? (i := 1071) (by decide +kernel)) rfl
theorem okX6_count : OkM mX6_count := OkM.of (lks := lks_RX6) (N := 131) lkp_RX6 rfl (by decide +kernel)
theorem oyX6_count : OkY mX6_count 1 := ⟨gw_in (List.mem_of_getElem? (i := 1357) (by decide +kernel)) rfl, gw_in (List.mem_of_getElem? (i := 47) (by decide +kernel)) rfl, by decide +kernel, by decide⟩
theorem iyX6_count : Cond.instanceMethod yX6_count ∈ gw := gw_in (List.mem_of_getElem? (i := 1355) (by decide +kernel)) rfl
theorem seX6_count : Cond.selects RX6 yX6_count yX6_count ∈ gw := gw_in (List.mem_of_getElem? (i := 1356) (by decide +kernel)) rfl
theorem okX6_sheet : OkM mX6_sheet := OkM.of (lks := lks_RX6) (N := 116) lkp_RX6 rfl (by decide +kernel)
theorem oyX6_sheet : OkY mX6_sheet 3 := ⟨gw_in (List.mem_of_getElem? (i := 1318) (by decide +kernel)) rfl, gw_in (List.mem_of_getElem? (i := 47) (by decide +kernel)) rfl, by decide +kernel, by decide⟩
theorem iyX6_sheet : Cond.instanceMethod yX6_sheet ∈ gw := gw_in (List.mem_of_getElem? (i := 1316) (by decide +kernel)) rfl
theorem seX6_sheet : Cond.selects RX6 yX6_sheet yX6_sheet ∈ gw := gw_in (List.mem_of_getElem? (i := 1317) (by decide +kernel)) rfl
theorem okX6_takesNeed : OkM mX6_takesNeed := OkM.of (lks := lks_RX6) (N := 111) lkp_RX6 rfl (by decide +kernel)
theorem oyX6_takesNeed : OkY mX6_takesNeed 0 := ⟨gw_in (List.mem_of_getElem? (i := 1046) (by decide +kernel)) rfl, gw_in (List.mem_of_getElem? (i := 47) (by decide +kernel)) rfl, by decide +kernel, by decide⟩
theorem iyX6_takesNeed : Cond.instanceMethod yX6_takesNeed ∈ gw := gw_in (List.mem_of_getElem? (i := 1045) (by decide +kernel)) rfl
theorem seX6_takesNeed : Cond.selects RX6 yX6_takesNeed yX6_takesNeed ∈ gw := gw_in (List.mem_of_getElem? (i := 14) (by decide +kernel)) rfl
theorem okX4_owedOf : OkM mX4_owedOf := OkM.of (lks := lks_RX4) (N := 100) lkp_RX4 rfl (by decide +kernel)
theorem oyX4_owedOf : OkY mX4_owedOf 2 := ⟨gw_in (List.mem_of_getElem? (i := 564) (by decide +kernel)) rfl, gw_in (List.mem_of_getElem? (i := 42) (by decide +kernel)) rfl, by decide +kernel, by decide⟩
theorem iyX4_owedOf : Cond.instanceMethod yX4_owedOf ∈ gw := gw_in (List.mem_of_getElem? (i := 562) (by decide +kernel)) rfl
theorem seX4_owedOf : Cond.selects RX4 yX4_owedOf yX4_owedOf ∈ gw := gw_in (List.mem_of_getElem? (i := 563) (by decide +kernel)) rfl
theorem okX0_helpingCoin : OkM mX0_helpingCoin := OkM.of (lks := lks_RX0) (N := 97) lkp_RX0 rfl (by decide +kernel)
theorem oyX0_helpingCoin : OkY mX0_helpingCoin 0 := ⟨gw_in (List.mem_of_getElem? (i := 787) (by decide +kernel)) rfl, gw_in (List.mem_of_getElem? (i := 45) (by decide +kernel)) rfl, by decide +kernel, by decide⟩
theorem iyX0_helpingCoin : Cond.instanceMethod yX0_helpingCoin ∈ gw := gw_in (List.mem_of_getElem? (i := 785) (by decide +kernel)) rfl
theorem seX0_helpingCoin : Cond.selects RX0 yX0_helpingCoin yX0_helpingCoin ∈ gw := gw_in (List.mem_of_getElem? (i := 786) (by decide +kernel)) rfl
theorem okX4_setPart : OkM mX4_setPart := OkM.of (lks := lks_RX4) (N := 94) lkp_RX4 rfl (by decide +kernel)
theorem oyX4_setPart : OkY mX4_setPart 3 := ⟨gw_in (List.mem_of_getElem? (i := 486) (by decide +kernel)) rfl, gw_in (List.mem_of_getElem? (i := 42) (by decide +kernel)) rfl, by decide +kernel, by decide⟩
theorem iyX4_setPart : Cond.instanceMethod yX4_setPart ∈ gw := gw_in (List.mem_of_getElem? (i := 484) (by decide +kernel)) rfl
theorem seX4_setPart : Cond.selects RX4 yX4_setPart yX4_setPart ∈ gw := gw_in (List.mem_of_getElem? (i := 485) (by decide +kernel)) rfl
theorem okX6_load : OkM mX6_load := OkM.of (lks := lks_RX6) (N := 87) lkp_RX6 rfl (by decide +kernel)
theorem oyX6_load : OkY mX6_load 1 := ⟨gw_in (List.mem_of_getElem? (i := 1333) (by decide +kernel)) rfl, gw_in (List.mem_of_getElem? (i := 47) (by decide +kernel)) rfl, by decide +kernel, by decide⟩
theorem iyX6_load : Cond.instanceMethod yX6_load ∈ gw := gw_in (List.mem_of_getElem? (i := 1331) (by decide +kernel)) rfl
theorem seX6_load : Cond.selects RX6 yX6_load yX6_load ∈ gw := gw_in (List.mem_of_getElem? (i := 1332) (by decide +kernel)) rfl
theorem okX1_readCoin : OkM mX1_readCoin := OkM.of (lks := lks_RX1) (N := 86) lkp_RX1 rfl (by decide +kernel)
theorem oyX1_readCoin : OkY mX1_readCoin 0 := ⟨gw_in (List.mem_of_getElem? (i := 385) (by decide +kernel)) rfl, gw_in (List.mem_of_getElem? (i := 44) (by decide +kernel)) rfl, by decide +kernel, by decide⟩
theorem iyX1_readCoin : Cond.instanceMethod yX1_readCoin ∈ gw := gw_in (List.mem_of_getElem? (i := 383) (by decide +kernel)) rfl
theorem seX1_readCoin : Cond.selects RX1 yX1_readCoin yX1_readCoin ∈ gw := gw_in (List.mem_of_getElem? (i := 384) (by decide +kernel)) rfl
theorem okJ6_numberOfTrailingZeros_0f7a4 : OkM mJ6_numberOfTrailingZeros_0f7a4 := OkM.of (lks := lks_RJ6) (N := 80) lkp_RJ6 rfl (by decide +kernel)
theorem oyJ6_numberOfTrailingZeros_0f7a4 : OkY mJ6_numberOfTrailingZeros_0f7a4 1 := ⟨gw_in (List.mem_of_getElem? (i := 732) (by decide +kernel)) rfl, gw_in (List.mem_of_getElem? (i := 54) (by decide +kernel)) rfl, by decide +kernel, by decide⟩
theorem syJ6_numberOfTrailingZeros_0f7a4 : Cond.static yJ6_numberOfTrailingZeros_0f7a4 ∈ gw := gw_in (List.mem_of_getElem? (i := 731) (by decide +kernel)) rfl
theorem okX5_as : OkM mX5_as := OkM.of (lks := lks_RX5) (N := 75) lkp_RX5 rfl (by decide +kernel)
theorem oyX5_as : OkY mX5_as 2 := ⟨gw_in (List.mem_of_getElem? (i := 827) (by decide +kernel)) rfl, gw_in (List.mem_of_getElem? (i := 41) (by decide +kernel)) rfl, by decide +kernel, by decide⟩
theorem iyX5_as : Cond.instanceMethod yX5_as ∈ gw := gw_in (List.mem_of_getElem? (i := 825) (by decide +kernel)) rfl
theorem seX5_as : Cond.selects RX5 yX5_as yX5_as ∈ gw := gw_in (List.mem_of_getElem? (i := 826) (by decide +kernel)) rfl
theorem okX1_readText : OkM mX1_readText := OkM.of (lks := lks_RX1) (N := 74) lkp_RX1 rfl (by decide +kernel)
theorem oyX1_readText : OkY mX1_readText 1 := ⟨gw_in (List.mem_of_getElem? (i := 306) (by decide +kernel)) rfl, gw_in (List.mem_of_getElem? (i := 44) (by decide +kernel)) rfl, by decide +kernel, by decide⟩
theorem iyX1_readText : Cond.instanceMethod yX1_readText ∈ gw := gw_in (List.mem_of_getElem? (i := 304) (by decide +kernel)) rfl
theorem seX1_readText : Cond.selects RX1 yX1_readText yX1_readText ∈ gw := gw_in (List.mem_of_getElem? (i := 305) (by decide +kernel)) rfl
theorem okX6_as : OkM mX6_as := OkM.of (lks := lks_RX6) (N := 70) lkp_RX6 rfl (by decide +kernel)
theorem oyX6_as : OkY mX6_as 2 := ⟨gw_in (List.mem_of_getElem? (i := 1311) (by decide +kernel)) rfl, gw_in (List.mem_of_getElem? (i := 47) (by decide +kernel)) rfl, by decide +kernel, by decide⟩
theorem iyX6_as : Cond.instanceMethod yX6_as ∈ gw := gw_in (List.mem_of_getElem? (i := 1309) (by decide +kernel)) rfl
theorem seX6_as : Cond.selects RX6 yX6_as yX6_as ∈ gw := gw_in (List.mem_of_getElem? (i := 1310) (by decide +kernel)) rfl
theorem okX0_bestSet : OkM mX0_bestSet := OkM.of (lks := lks_RX0) (N := 64) lkp_RX0 rfl (by decide +kernel)
theorem oyX0_bestSet : OkY mX0_bestSet 0 := ⟨gw_in (List.mem_of_getElem? (i := 775) (by decide +kernel)) rfl, gw_in (List.mem_of_getElem? (i := 45) (by decide +kernel)) rfl, by decide +kernel, by decide⟩
theorem iyX0_bestSet : Cond.instanceMethod yX0_bestSet ∈ gw := gw_in (List.mem_of_getElem? (i := 773) (by decide +kernel)) rfl
theorem seX0_bestSet : Cond.selects RX0 yX0_bestSet yX0_bestSet ∈ gw := gw_in (List.mem_of_getElem? (i := 774) (by decide +kernel)) rfl
theorem okX0_weightOfMoreByRows : OkM mX0_weightOfMoreByRows := OkM.of (lks := lks_RX0) (N := 60) lkp_RX0 rfl (by decide +kernel)
theorem oyX0_weightOfMoreByRows : OkY mX0_weightOfMoreByRows 2 := ⟨gw_in (List.mem_of_getElem? (i := 767) (by decide +kernel)) rfl, gw_in (List.mem_of_getElem? (i := 45) (by decide +kernel)) rfl, by decide +kernel, by decide⟩
theorem iyX0_weightOfMoreByRows : Cond.instanceMethod yX0_weightOfMoreByRows ∈ gw := gw_in (List.mem_of_getElem? (i := 765) (by decide +kernel)) rfl
theorem seX0_weightOfMoreByRows : Cond.selects RX0 yX0_weightOfMoreByRows yX0_weightOfMoreByRows ∈ gw := gw_in (List.mem_of_getElem? (i := 766) (by decide +kernel)) rfl
theorem okX5_fewest : OkM mX5_fewest := OkM.of (lks := lks_RX5) (N := 59) lkp_RX5 rfl (by decide +kernel)
theorem oyX5_fewest : OkY mX5_fewest 3 := ⟨gw_in (List.mem_of_getElem? (i := 710) (by decide +kernel)) rfl, gw_in (List.mem_of_getElem? (i := 41) (by decide +kernel)) rfl, by decide +kernel, by decide⟩
theorem iyX5_fewest : Cond.instanceMethod yX5_fewest ∈ gw := gw_in (List.mem_of_getElem? (i := 708) (by decide +kernel)) rfl
theorem seX5_fewest : Cond.selects RX5 yX5_fewest yX5_fewest ∈ gw := gw_in (List.mem_of_getElem? (i := 709) (by decide +kernel)) rfl
theorem okX6_weightOf : OkM mX6_weightOf := OkM.of (lks := lks_RX6) (N := 58) lkp_RX6 rfl (by decide +kernel)
theorem oyX6_weightOf : OkY mX6_weightOf 1 := ⟨gw_in (List.mem_of_getElem? (i := 1186) (by decide +kernel)) rfl, gw_in (List.mem_of_getElem? (i := 47) (by decide +kernel)) rfl, by decide +kernel, by decide⟩
theorem iyX6_weightOf : Cond.instanceMethod yX6_weightOf ∈ gw := gw_in (List.mem_of_getElem? (i := 1185) (by decide +kernel)) rfl
theorem seX6_weightOf : Cond.selects RX6 yX6_weightOf yX6_weightOf ∈ gw := gw_in (List.mem_of_getElem? (i := 29) (by decide +kernel)) rfl
theorem okX5_status : OkM mX5_status := OkM.of (lks := lks_RX5) (N := 55) lkp_RX5 rfl (by decide +kernel)
theorem oyX5_status : OkY mX5_status 1 := ⟨gw_in (List.mem_of_getElem? (i := 908) (by decide +kernel)) rfl, gw_in (List.mem_of_getElem? (i := 41) (by decide +kernel)) rfl, by decide +kernel, by decide⟩
theorem iyX5_status : Cond.instanceMethod yX5_status ∈ gw := gw_in (List.mem_of_getElem? (i := 906) (by decide +kernel)) rfl
theorem seX5_status : Cond.selects RX5 yX5_status yX5_status ∈ gw := gw_in (List.mem_of_getElem? (i := 907) (by decide +kernel)) rfl
theorem okX4_dropLatest : OkM mX4_dropLatest := OkM.of (lks := lks_RX4) (N := 53) lkp_RX4 rfl (by decide +kernel)
theorem oyX4_dropLatest : OkY mX4_dropLatest 0 := ⟨gw_in (List.mem_of_getElem? (i := 495) (by decide +kernel)) rfl, gw_in (List.mem_of_getElem? (i := 42) (by decide +kernel)) rfl, by decide +kernel, by decide⟩
theorem iyX4_dropLatest : Cond.instanceMethod yX4_dropLatest ∈ gw := gw_in (List.mem_of_getElem? (i := 493) (by decide +kernel)) rfl
theorem seX4_dropLatest : Cond.selects RX4 yX4_dropLatest yX4_dropLatest ∈ gw := gw_in (List.mem_of_getElem? (i := 494) (by decide +kernel)) rfl
theorem okX4_broughtBy : OkM mX4_broughtBy := OkM.of (lks := lks_RX4) (N := 52) lkp_RX4 rfl (by decide +kernel)
theorem oyX4_broughtBy : OkY mX4_broughtBy 2 := ⟨gw_in (List.mem_of_getElem? (i := 572) (by decide +kernel)) rfl, gw_in (List.mem_of_getElem? (i := 42) (by decide +kernel)) rfl, by decide +kernel, by decide⟩
theorem iyX4_broughtBy : Cond.instanceMethod yX4_broughtBy ∈ gw := gw_in (List.mem_of_getElem? (i := 570) (by decide +kernel)) rfl
theorem seX4_broughtBy : Cond.selects RX4 yX4_broughtBy yX4_broughtBy ∈ gw := gw_in (List.mem_of_getElem? (i := 571) (by decide +kernel)) rfl
theorem okX4_weightOf : OkM mX4_weightOf := OkM.of (lks := lks_RX4) (N := 51) lkp_RX4 rfl (by decide +kernel)
theorem oyX4_weightOf : OkY mX4_weightOf 1 := ⟨gw_in (List.mem_of_getElem? (i := 593) (by decide +kernel)) rfl, gw_in (List.mem_of_getElem? (i := 42) (by decide +kernel)) rfl, by decide +kernel, by decide⟩
theorem iyX4_weightOf : Cond.instanceMethod yX4_weightOf ∈ gw := gw_in (List.mem_of_getElem? (i := 591) (by decide +kernel)) rfl
theorem seX4_weightOf : Cond.selects RX4 yX4_weightOf yX4_weightOf ∈ gw := gw_in (List.mem_of_getElem? (i := 592) (by decide +kernel)) rfl
theorem okX5_chance : OkM mX5_chance := OkM.of (lks := lks_RX5) (N := 48) lkp_RX5 rfl (by decide +kernel)
theorem oyX5_chance : OkY mX5_chance 2 := ⟨gw_in (List.mem_of_getElem? (i := 597) (by decide +kernel)) rfl, gw_in (List.mem_of_getElem? (i := 41) (by decide +kernel)) rfl, by decide +kernel, by decide⟩
theorem iyX5_chance : Cond.instanceMethod yX5_chance ∈ gw := gw_in (List.mem_of_getElem? (i := 595) (by decide +kernel)) rfl
theorem seX5_chance : Cond.selects RX5 yX5_chance yX5_chance ∈ gw := gw_in (List.mem_of_getElem? (i := 596) (by decide +kernel)) rfl
theorem okX6_town : OkM mX6_town := OkM.of (lks := lks_RX6) (N := 48) lkp_RX6 rfl (by decide +kernel)
theorem oyX6_town : OkY mX6_town 0 := ⟨gw_in (List.mem_of_getElem? (i := 998) (by decide +kernel)) rfl, gw_in (List.mem_of_getElem? (i := 47) (by decide +kernel)) rfl, by decide +kernel, by decide⟩
theorem iyX6_town : Cond.instanceMethod yX6_town ∈ gw := gw_in (List.mem_of_getElem? (i := 996) (by decide +kernel)) rfl
theorem seX6_town : Cond.selects RX6 yX6_town yX6_town ∈ gw := gw_in (List.mem_of_getElem? (i := 997) (by decide +kernel)) rfl
theorem okX0_weightOfAllKept : OkM mX0_weightOfAllKept := OkM.of (lks := lks_RX0) (N := 46) lkp_RX0 rfl (by decide +kernel)
theorem oyX0_weightOfAllKept : OkY mX0_weightOfAllKept 1 := ⟨gw_in (List.mem_of_getElem? (i := 626) (by decide +kernel)) rfl, gw_in (List.mem_of_getElem? (i := 45) (by decide +kernel)) rfl, by decide +kernel, by decide⟩
theorem iyX0_weightOfAllKept : Cond.instanceMethod yX0_weightOfAllKept ∈ gw := gw_in (List.mem_of_getElem? (i := 624) (by decide +kernel)) rfl
theorem seX0_weightOfAllKept : Cond.selects RX0 yX0_weightOfAllKept yX0_weightOfAllKept ∈ gw := gw_in (List.mem_of_getElem? (i := 625) (by decide +kernel)) rfl
theorem okX5_worth : OkM mX5_worth := OkM.of (lks := lks_RX5) (N := 46) lkp_RX5 rfl (by decide +kernel)
theorem oyX5_worth : OkY mX5_worth 2 := ⟨gw_in (List.mem_of_getElem? (i := 676) (by decide +kernel)) rfl, gw_in (List.mem_of_getElem? (i := 41) (by decide +kernel)) rfl, by decide +kernel, by decide⟩
theorem iyX5_worth : Cond.instanceMethod yX5_worth ∈ gw := gw_in (List.mem_of_getElem? (i := 674) (by decide +kernel)) rfl
theorem seX5_worth : Cond.selects RX5 yX5_worth yX5_worth ∈ gw := gw_in (List.mem_of_getElem? (i := 675) (by decide +kernel)) rfl
theorem okX0_fraction : OkM mX0_fraction := OkM.of (lks := lks_RX0) (N := 42) lkp_RX0 rfl (by decide +kernel)
theorem oyX0_fraction : OkY mX0_fraction 2 := ⟨gw_in (List.mem_of_getElem? (i := 630) (by decide +kernel)) rfl, gw_in (List.mem_of_getElem? (i := 45) (by decide +kernel)) rfl, by decide +kernel, by decide⟩
theorem iyX0_fraction : Cond.instanceMethod yX0_fraction ∈ gw := gw_in (List.mem_of_getElem? (i := 628) (by decide +kernel)) rfl
theorem seX0_fraction : Cond.selects RX0 yX0_fraction yX0_fraction ∈ gw := gw_in (List.mem_of_getElem? (i := 629) (by decide +kernel)) rfl
theorem okX6_meanOf : OkM mX6_meanOf := OkM.of (lks := lks_RX6) (N := 40) lkp_RX6 rfl (by decide +kernel)
theorem oyX6_meanOf : OkY mX6_meanOf 1 := ⟨gw_in (List.mem_of_getElem? (i := 1229) (by decide +kernel)) rfl, gw_in (List.mem_of_getElem? (i := 47) (by decide +kernel)) rfl, by decide +kernel, by decide⟩
theorem iyX6_meanOf : Cond.instanceMethod yX6_meanOf ∈ gw := gw_in (List.mem_of_getElem? (i := 1228) (by decide +kernel)) rfl
theorem seX6_meanOf : Cond.selects RX6 yX6_meanOf yX6_meanOf ∈ gw := gw_in (List.mem_of_getElem? (i := 34) (by decide +kernel)) rfl
theorem okX6_worthOf : OkM mX6_worthOf := OkM.of (lks := lks_RX6) (N := 38) lkp_RX6 rfl (by decide +kernel)
theorem oyX6_worthOf : OkY mX6_worthOf 1 := ⟨gw_in (List.mem_of_getElem? (i := 1237) (by decide +kernel)) rfl, gw_in (List.mem_of_getElem? (i := 47) (by decide +kernel)) rfl, by decide +kernel, by decide⟩
theorem iyX6_worthOf : Cond.instanceMethod yX6_worthOf ∈ gw := gw_in (List.mem_of_getElem? (i := 1236) (by decide +kernel)) rfl
theorem seX6_worthOf : Cond.selects RX6 yX6_worthOf yX6_worthOf ∈ gw := gw_in (List.mem_of_getElem? (i := 35) (by decide +kernel)) rfl
theorem okX5_undo : OkM mX5_undo := OkM.of (lks := lks_RX5) (N := 33) lkp_RX5 rfl (by decide +kernel)
theorem oyX5_undo : OkY mX5_undo 0 := ⟨gw_in (List.mem_of_getElem? (i := 892) (by decide +kernel)) rfl, gw_in (List.mem_of_getElem? (i := 41) (by decide +kernel)) rfl, by decide +kernel, by decide⟩
theorem iyX5_undo : Cond.instanceMethod yX5_undo ∈ gw := gw_in (List.mem_of_getElem? (i := 890) (by decide +kernel)) rfl
theorem seX5_undo : Cond.selects RX5 yX5_undo yX5_undo ∈ gw := gw_in (List.mem_of_getElem? (i := 891) (by decide +kernel)) rfl
theorem okX2_hasSpan : OkM mX2_hasSpan := OkM.of (lks := lks_RX2) (N := 32) lkp_RX2 rfl (by decide +kernel)
theorem oyX2_hasSpan : OkY mX2_hasSpan 2 := ⟨gw_in (List.mem_of_getElem? (i := 869) (by decide +kernel)) rfl, gw_in (List.mem_of_getElem? (i := 46) (by decide +kernel)) rfl, by decide +kernel, by decide⟩
theorem iyX2_hasSpan : Cond.instanceMethod yX2_hasSpan ∈ gw := gw_in (List.mem_of_getElem? (i := 867) (by decide +kernel)) rfl
theorem seX2_hasSpan : Cond.selects RX2 yX2_hasSpan yX2_hasSpan ∈ gw := gw_in (List.mem_of_getElem? (i := 868) (by decide +kernel)) rfl
theorem okX6_promiseOf : OkM mX6_promiseOf := OkM.of (lks := lks_RX6) (N := 32) lkp_RX6 rfl (by decide +kernel)
theorem oyX6_promiseOf : OkY mX6_promiseOf 2 := ⟨gw_in (List.mem_of_getElem? (i := 1079) (by decide +kernel)) rfl, gw_in (List.mem_of_getElem? (i := 47) (by decide +kernel)) rfl, by decide +kernel, by decide⟩
theorem iyX6_promiseOf : Cond.instanceMethod yX6_promiseOf ∈ gw := gw_in (List.mem_of_getElem? (i := 1077) (by decide +kernel)) rfl
theorem seX6_promiseOf : Cond.selects RX6 yX6_promiseOf yX6_promiseOf ∈ gw := gw_in (List.mem_of_getElem? (i := 1078) (by decide +kernel)) rfl
theorem okX0_fillKeptSets : OkM mX0_fillKeptSets := OkM.of (lks := lks_RX0) (N := 30) lkp_RX0 rfl (by decide +kernel)
theorem oyX0_fillKeptSets : OkY mX0_fillKeptSets 0 := ⟨gw_in (List.mem_of_getElem? (i := 612) (by decide +kernel)) rfl, gw_in (List.mem_of_getElem? (i := 45) (by decide +kernel)) rfl, by decide +kernel, by decide⟩
theorem iyX0_fillKeptSets : Cond.instanceMethod yX0_fillKeptSets ∈ gw := gw_in (List.mem_of_getElem? (i := 610) (by decide +kernel)) rfl
theorem seX0_fillKeptSets : Cond.selects RX0 yX0_fillKeptSets yX0_fillKeptSets ∈ gw := gw_in (List.mem_of_getElem? (i := 611) (by decide +kernel)) rfl
theorem okX5_refuse : OkM mX5_refuse := OkM.of (lks := lks_RX5) (N := 27) lkp_RX5 rfl (by decide +kernel)
theorem oyX5_refuse : OkY mX5_refuse 1 := ⟨gw_in (List.mem_of_getElem? (i := 289) (by decide +kernel)) rfl, gw_in (List.mem_of_getElem? (i := 41) (by decide +kernel)) rfl, by decide +kernel, by decide⟩
theorem iyX5_refuse : Cond.instanceMethod yX5_refuse ∈ gw := gw_in (List.mem_of_getElem? (i := 288) (by decide +kernel)) rfl
theorem seX5_refuse : Cond.selects RX5 yX5_refuse yX5_refuse ∈ gw := gw_in (List.mem_of_getElem? (i := 0) (by decide +kernel)) rfl
theorem okX6_lacks : OkM mX6_lacks := OkM.of (lks := lks_RX6) (N := 26) lkp_RX6 rfl (by decide +kernel)
theorem oyX6_lacks : OkY mX6_lacks 1 := ⟨gw_in (List.mem_of_getElem? (i := 1337) (by decide +kernel)) rfl, gw_in (List.mem_of_getElem? (i := 47) (by decide +kernel)) rfl, by decide +kernel, by decide⟩
theorem iyX6_lacks : Cond.instanceMethod yX6_lacks ∈ gw := gw_in (List.mem_of_getElem? (i := 1336) (by decide +kernel)) rfl
theorem seX6_lacks : Cond.selects RX6 yX6_lacks yX6_lacks ∈ gw := gw_in (List.mem_of_getElem? (i := 39) (by decide +kernel)) rfl
theorem okX2_init0 : OkM (mX2_init 0) := OkM.of (lks := lks_RX2) (N := 23) lkp_RX2 rfl (by decide +kernel)
theorem oyX2_init0 : OkY (mX2_init 0) 0 := ⟨gw_in (List.mem_of_getElem? (i := 238) (by decide +kernel)) rfl, gw_in (List.mem_of_getElem? (i := 46) (by decide +kernel)) rfl, by decide +kernel, by decide⟩
theorem okX2_init (nz : Nat) : OkM (mX2_init nz) := okX2_init0
theorem oyX2_init (nz : Nat) : OkY (mX2_init nz) 0 := oyX2_init0
theorem iyX2_init : Cond.instanceMethod yX2_init ∈ gw := gw_in (List.mem_of_getElem? (i := 237) (by decide +kernel)) rfl
theorem okX5_weight : OkM mX5_weight := OkM.of (lks := lks_RX5) (N := 23) lkp_RX5 rfl (by decide +kernel)
theorem oyX5_weight : OkY mX5_weight 1 := ⟨gw_in (List.mem_of_getElem? (i := 589) (by decide +kernel)) rfl, gw_in (List.mem_of_getElem? (i := 41) (by decide +kernel)) rfl, by decide +kernel, by decide⟩
theorem iyX5_weight : Cond.instanceMethod yX5_weight ∈ gw := gw_in (List.mem_of_getElem? (i := 587) (by decide +kernel)) rfl
theorem seX5_weight : Cond.selects RX5 yX5_weight yX5_weight ∈ gw := gw_in (List.mem_of_getElem? (i := 588) (by decide +kernel)) rfl
theorem okX5_isPromise : OkM mX5_isPromise := OkM.of (lks := lks_RX5) (N := 21) lkp_RX5 rfl (by decide +kernel)
theorem oyX5_isPromise : OkY mX5_isPromise 1 := ⟨gw_in (List.mem_of_getElem? (i := 474) (by decide +kernel)) rfl, gw_in (List.mem_of_getElem? (i := 41) (by decide +kernel)) rfl, by decide +kernel, by decide⟩
theorem iyX5_isPromise : Cond.instanceMethod yX5_isPromise ∈ gw := gw_in (List.mem_of_getElem? (i := 473) (by decide +kernel)) rfl
theorem seX5_isPromise : Cond.selects RX5 yX5_isPromise yX5_isPromise ∈ gw := gw_in (List.mem_of_getElem? (i := 1) (by decide +kernel)) rfl
theorem okX5_tear : OkM mX5_tear := OkM.of (lks := lks_RX5) (N := 20) lkp_RX5 rfl (by decide +kernel)
theorem oyX5_tear : OkY mX5_tear 0 := ⟨gw_in (List.mem_of_getElem? (i := 896) (by decide +kernel)) rfl, gw_in (List.mem_of_getElem? (i := 41) (by decide +kernel)) rfl, by decide +kernel, by decide⟩
theorem iyX5_tear : Cond.instanceMethod yX5_tear ∈ gw := gw_in (List.mem_of_getElem? (i := 894) (by decide +kernel)) rfl
theorem seX5_tear : Cond.selects RX5 yX5_tear yX5_tear ∈ gw := gw_in (List.mem_of_getElem? (i := 895) (by decide +kernel)) rfl
theorem okX6_image : OkM mX6_image := OkM.of (lks := lks_RX6) (N := 18) lkp_RX6 rfl (by decide +kernel)
theorem oyX6_image : OkY mX6_image 0 := ⟨gw_in (List.mem_of_getElem? (i := 1345) (by decide +kernel)) rfl, gw_in (List.mem_of_getElem? (i := 47) (by decide +kernel)) rfl, by decide +kernel, by decide⟩
theorem iyX6_image : Cond.instanceMethod yX6_image ∈ gw := gw_in (List.mem_of_getElem? (i := 1343) (by decide +kernel)) rfl
theorem seX6_image : Cond.selects RX6 yX6_image yX6_image ∈ gw := gw_in (List.mem_of_getElem? (i := 1344) (by decide +kernel)) rfl
theorem okX5_isBetween : OkM mX5_isBetween := OkM.of (lks := lks_RX5) (N := 16) lkp_RX5 rfl (by decide +kernel)
theorem oyX5_isBetween : OkY mX5_isBetween 3 := ⟨gw_in (List.mem_of_getElem? (i := 284) (by decide +kernel)) rfl, gw_in (List.mem_of_getElem? (i := 41) (by decide +kernel)) rfl, by decide +kernel, by decide⟩
theorem syX5_isBetween : Cond.static yX5_isBetween ∈ gw := gw_in (List.mem_of_getElem? (i := 283) (by decide +kernel)) rfl
theorem okX5_best : OkM mX5_best := OkM.of (lks := lks_RX5) (N := 15) lkp_RX5 rfl (by decide +kernel)
theorem oyX5_best : OkY mX5_best 0 := ⟨gw_in (List.mem_of_getElem? (i := 771) (by decide +kernel)) rfl, gw_in (List.mem_of_getElem? (i := 41) (by decide +kernel)) rfl, by decide +kernel, by decide⟩
theorem iyX5_best : Cond.instanceMethod yX5_best ∈ gw := gw_in (List.mem_of_getElem? (i := 769) (by decide +kernel)) rfl
theorem seX5_best : Cond.selects RX5 yX5_best yX5_best ∈ gw := gw_in (List.mem_of_getElem? (i := 770) (by decide +kernel)) rfl
theorem okX6_finding : OkM mX6_finding := OkM.of (lks := lks_RX6) (N := 15) lkp_RX6 rfl (by decide +kernel)
theorem oyX6_finding : OkY mX6_finding 1 := ⟨gw_in (List.mem_of_getElem? (i := 989) (by decide +kernel)) rfl, gw_in (List.mem_of_getElem? (i := 47) (by decide +kernel)) rfl, by decide +kernel, by decide⟩
theorem iyX6_finding : Cond.instanceMethod yX6_finding ∈ gw := gw_in (List.mem_of_getElem? (i := 988) (by decide +kernel)) rfl
theorem seX6_finding : Cond.selects RX6 yX6_finding yX6_finding ∈ gw := gw_in (List.mem_of_getElem? (i := 4) (by decide +kernel)) rfl
theorem okX6_isPromise : OkM mX6_isPromise := OkM.of (lks := lks_RX6) (N := 14) lkp_RX6 rfl (by decide +kernel)
theorem oyX6_isPromise : OkY mX6_isPromise 1 := ⟨gw_in (List.mem_of_getElem? (i := 1083) (by decide +kernel)) rfl, gw_in (List.mem_of_getElem? (i := 47) (by decide +kernel)) rfl, by decide +kernel, by decide⟩
theorem iyX6_isPromise : Cond.instanceMethod yX6_isPromise ∈ gw := gw_in (List.mem_of_getElem? (i := 1082) (by decide +kernel)) rfl
theorem seX6_isPromise : Cond.selects RX6 yX6_isPromise yX6_isPromise ∈ gw := gw_in (List.mem_of_getElem? (i := 16) (by decide +kernel)) rfl
theorem okJ9_min_7cf53 : OkM mJ9_min_7cf53 := OkM.of (lks := lks_RJ9) (N := 11) lkp_RJ9 rfl (by decide +kernel)
theorem oyJ9_min_7cf53 : OkY mJ9_min_7cf53 2 := ⟨gw_in (List.mem_of_getElem? (i := 324) (by decide +kernel)) rfl, gw_in (List.mem_of_getElem? (i := 49) (by decide +kernel)) rfl, by decide +kernel, by decide⟩
theorem syJ9_min_7cf53 : Cond.static yJ9_min_7cf53 ∈ gw := gw_in (List.mem_of_getElem? (i := 323) (by decide +kernel)) rfl
theorem okX5_helps : OkM mX5_helps := OkM.of (lks := lks_RX5) (N := 8) lkp_RX5 rfl (by decide +kernel)
theorem oyX5_helps : OkY mX5_helps 0 := ⟨gw_in (List.mem_of_getElem? (i := 783) (by decide +kernel)) rfl, gw_in (List.mem_of_getElem? (i := 41) (by decide +kernel)) rfl, by decide +kernel, by decide⟩
theorem iyX5_helps : Cond.instanceMethod yX5_helps ∈ gw := gw_in (List.mem_of_getElem? (i := 781) (by decide +kernel)) rfl
theorem seX5_helps : Cond.selects RX5 yX5_helps yX5_helps ∈ gw := gw_in (List.mem_of_getElem? (i := 782) (by decide +kernel)) rfl
theorem okX5_isKind : OkM mX5_isKind := OkM.of (lks := lks_RX5) (N := 8) lkp_RX5 rfl (by decide +kernel)
theorem oyX5_isKind : OkY mX5_isKind 1 := ⟨gw_in (List.mem_of_getElem? (i := 460) (by decide +kernel)) rfl, gw_in (List.mem_of_getElem? (i := 41) (by decide +kernel)) rfl, by decide +kernel, by decide⟩
theorem syX5_isKind : Cond.static yX5_isKind ∈ gw := gw_in (List.mem_of_getElem? (i := 459) (by decide +kernel)) rfl
theorem mlX5_9 : Cond.methodLink RX5 9 yX4_init ∈ gw := gw_in (List.mem_of_getElem? (i := 65) (by decide +kernel)) rfl
theorem mlX5_25 : Cond.methodLink RX5 25 yX3_init ∈ gw := gw_in (List.mem_of_getElem? (i := 146) (by decide +kernel)) rfl
theorem mlX5_32 : Cond.methodLink RX5 32 yX1_init ∈ gw := gw_in (List.mem_of_getElem? (i := 162) (by decide +kernel)) rfl
theorem mlX5_41 : Cond.methodLink RX5 41 yX0_init ∈ gw := gw_in (List.mem_of_getElem? (i := 194) (by decide +kernel)) rfl
theorem mlX5_54 : Cond.methodLink RX5 54 yX2_init ∈ gw := gw_in (List.mem_of_getElem? (i := 236) (by decide +kernel)) rfl
theorem mlX5_59 : Cond.methodLink RX5 59 yX5_isBetween ∈ gw := gw_in (List.mem_of_getElem? (i := 282) (by decide +kernel)) rfl
theorem mlX5_64 : Cond.methodLink RX5 64 yX5_refuse ∈ gw := gw_in (List.mem_of_getElem? (i := 286) (by decide +kernel)) rfl
theorem mlX5_73 : Cond.methodLink RX5 73 yX3_append ∈ gw := gw_in (List.mem_of_getElem? (i := 291) (by decide +kernel)) rfl
theorem mlX5_77 : Cond.methodLink RX5 77 yX1_readText ∈ gw := gw_in (List.mem_of_getElem? (i := 303) (by decide +kernel)) rfl
theorem mlX5_87 : Cond.methodLink RX5 87 yX4_becomeAs ∈ gw := gw_in (List.mem_of_getElem? (i := 445) (by decide +kernel)) rfl
theorem mlX5_90 : Cond.methodLink RX5 90 yX5_isCoin ∈ gw := gw_in (List.mem_of_getElem? (i := 451) (by decide +kernel)) rfl
theorem mlX5_100 : Cond.methodLink RX5 100 yX5_isKind ∈ gw := gw_in (List.mem_of_getElem? (i := 458) (by decide +kernel)) rfl
theorem mlX5_103 : Cond.methodLink RX5 103 yX5_fitsPart ∈ gw := gw_in (List.mem_of_getElem? (i := 461) (by decide +kernel)) rfl
theorem mlX5_110 : Cond.methodLink RX5 110 yX4_addPromise ∈ gw := gw_in (List.mem_of_getElem? (i := 466) (by decide +kernel)) rfl
theorem mlX5_114 : Cond.methodLink RX5 114 yX5_isPromise ∈ gw := gw_in (List.mem_of_getElem? (i := 471) (by decide +kernel)) rfl
theorem mlX5_117 : Cond.methodLink RX5 117 yX4_partOf ∈ gw := gw_in (List.mem_of_getElem? (i := 475) (by decide +kernel)) rfl
theorem mlX5_121 : Cond.methodLink RX5 121 yX4_setPart ∈ gw := gw_in (List.mem_of_getElem? (i := 483) (by decide +kernel)) rfl
theorem mlX5_126 : Cond.methodLink RX5 126 yX4_dropLatest ∈ gw := gw_in (List.mem_of_getElem? (i := 492) (by decide +kernel)) rfl
theorem mlX5_129 : Cond.methodLink RX5 129 yX5_fitsNeed ∈ gw := gw_in (List.mem_of_getElem? (i := 500) (by decide +kernel)) rfl
theorem mlX5_135 : Cond.methodLink RX5 135 yX4_addNeed ∈ gw := gw_in (List.mem_of_getElem? (i := 505) (by decide +kernel)) rfl
theorem mlX5_138 : Cond.methodLink RX5 138 yX5_isNeed ∈ gw := gw_in (List.mem_of_getElem? (i := 510) (by decide +kernel)) rfl
theorem mlX5_150 : Cond.methodLink RX5 150 yX4_tossCoins ∈ gw := gw_in (List.mem_of_getElem? (i := 518) (by decide +kernel)) rfl
theorem mlX5_157 : Cond.methodLink RX5 157 yX5_isThrow ∈ gw := gw_in (List.mem_of_getElem? (i := 531) (by decide +kernel)) rfl
theorem mlX5_160 : Cond.methodLink RX5 160 yX4_keptIn ∈ gw := gw_in (List.mem_of_getElem? (i := 538) (by decide +kernel)) rfl
theorem mlX5_163 : Cond.methodLink RX5 163 yX5_isSet ∈ gw := gw_in (List.mem_of_getElem? (i := 553) (by decide +kernel)) rfl
theorem mlX5_166 : Cond.methodLink RX5 166 yX4_owedBy ∈ gw := gw_in (List.mem_of_getElem? (i := 557) (by decide +kernel)) rfl
theorem mlX5_169 : Cond.methodLink RX5 169 yX4_broughtBy ∈ gw := gw_in (List.mem_of_getElem? (i := 569) (by decide +kernel)) rfl
theorem mlX5_172 : Cond.methodLink RX5 172 yX4_needsMetBy ∈ gw := gw_in (List.mem_of_getElem? (i := 577) (by decide +kernel)) rfl
theorem mlX5_175 : Cond.methodLink RX5 175 yX4_weightOf ∈ gw := gw_in (List.mem_of_getElem? (i := 590) (by decide +kernel)) rfl
theorem mlX5_178 : Cond.methodLink RX5 178 yX5_isPart ∈ gw := gw_in (List.mem_of_getElem? (i := 598) (by decide +kernel)) rfl
theorem mlX5_181 : Cond.methodLink RX5 181 yX0_gather ∈ gw := gw_in (List.mem_of_getElem? (i := 601) (by decide +kernel)) rfl
theorem mlX5_184 : Cond.methodLink RX5 184 yX0_weightOfAllKept ∈ gw := gw_in (List.mem_of_getElem? (i := 623) (by decide +kernel)) rfl
theorem mlX5_188 : Cond.methodLink RX5 188 yX0_fraction ∈ gw := gw_in (List.mem_of_getElem? (i := 627) (by decide +kernel)) rfl
theorem mlX5_192 : Cond.methodLink RX5 192 yX0_weightOfAnyKept ∈ gw := gw_in (List.mem_of_getElem? (i := 642) (by decide +kernel)) rfl
theorem mlX5_195 : Cond.methodLink RX5 195 yX0_weightOfMet ∈ gw := gw_in (List.mem_of_getElem? (i := 650) (by decide +kernel)) rfl
theorem mlX5_199 : Cond.methodLink RX5 199 yX0_weightOfAllMet ∈ gw := gw_in (List.mem_of_getElem? (i := 659) (by decide +kernel)) rfl
theorem mlX5_202 : Cond.methodLink RX5 202 yX0_weighedOwed ∈ gw := gw_in (List.mem_of_getElem? (i := 668) (by decide +kernel)) rfl
theorem mlX5_205 : Cond.methodLink RX5 205 yX0_weighedWorth ∈ gw := gw_in (List.mem_of_getElem? (i := 677) (by decide +kernel)) rfl
theorem mlX5_208 : Cond.methodLink RX5 208 yX0_weightOfMore ∈ gw := gw_in (List.mem_of_getElem? (i := 689) (by decide +kernel)) rfl
theorem mlX5_211 : Cond.methodLink RX5 211 yX0_likeliestCount ∈ gw := gw_in (List.mem_of_getElem? (i := 697) (by decide +kernel)) rfl
theorem mlX5_214 : Cond.methodLink RX5 214 yX5_isRatio ∈ gw := gw_in (List.mem_of_getElem? (i := 711) (by decide +kernel)) rfl
theorem mlX5_217 : Cond.methodLink RX5 217 yX0_fewestFor ∈ gw := gw_in (List.mem_of_getElem? (i := 714) (by decide +kernel)) rfl
theorem mlX5_221 : Cond.methodLink RX5 221 yX0_cheapestFor ∈ gw := gw_in (List.mem_of_getElem? (i := 742) (by decide +kernel)) rfl
theorem mlX5_224 : Cond.methodLink RX5 224 yX0_mostWithin ∈ gw := gw_in (List.mem_of_getElem? (i := 756) (by decide +kernel)) rfl
theorem mlX5_227 : Cond.methodLink RX5 227 yX0_bestSet ∈ gw := gw_in (List.mem_of_getElem? (i := 772) (by decide +kernel)) rfl
theorem mlX5_230 : Cond.methodLink RX5 230 yX0_helpingCoin ∈ gw := gw_in (List.mem_of_getElem? (i := 784) (by decide +kernel)) rfl
theorem mlX5_233 : Cond.methodLink RX5 233 yX0_fillKeptSets ∈ gw := gw_in (List.mem_of_getElem? (i := 793) (by decide +kernel)) rfl
theorem mlX5_236 : Cond.methodLink RX5 236 yX0_hangingBy ∈ gw := gw_in (List.mem_of_getElem? (i := 794) (by decide +kernel)) rfl
theorem mlX5_239 : Cond.methodLink RX5 239 yX5_has ∈ gw := gw_in (List.mem_of_getElem? (i := 802) (by decide +kernel)) rfl
theorem mlX5_242 : Cond.methodLink RX5 242 yX4_wholeWeight ∈ gw := gw_in (List.mem_of_getElem? (i := 807) (by decide +kernel)) rfl
theorem mlX5_245 : Cond.methodLink RX5 245 yX4_isMet ∈ gw := gw_in (List.mem_of_getElem? (i := 812) (by decide +kernel)) rfl
theorem mlX5_251 : Cond.methodLink RX5 251 yX5_isSpot ∈ gw := gw_in (List.mem_of_getElem? (i := 821) (by decide +kernel)) rfl
theorem mlX5_261 : Cond.methodLink RX5 261 yX5_isUnder ∈ gw := gw_in (List.mem_of_getElem? (i := 829) (by decide +kernel)) rfl
theorem mlX5_265 : Cond.methodLink RX5 265 yX5_isSheet ∈ gw := gw_in (List.mem_of_getElem? (i := 839) (by decide +kernel)) rfl
theorem mlX5_269 : Cond.methodLink RX5 269 yX2_begin ∈ gw := gw_in (List.mem_of_getElem? (i := 843) (by decide +kernel)) rfl
theorem mlX5_275 : Cond.methodLink RX5 275 yX2_isMissing ∈ gw := gw_in (List.mem_of_getElem? (i := 853) (by decide +kernel)) rfl
theorem mlX5_279 : Cond.methodLink RX5 279 yX2_put ∈ gw := gw_in (List.mem_of_getElem? (i := 857) (by decide +kernel)) rfl
theorem mlX5_285 : Cond.methodLink RX5 285 yX2_hasSpan ∈ gw := gw_in (List.mem_of_getElem? (i := 866) (by decide +kernel)) rfl
theorem mlX5_300 : Cond.methodLink RX5 300 yX2_firstWrong ∈ gw := gw_in (List.mem_of_getElem? (i := 879) (by decide +kernel)) rfl
theorem mlX5_303 : Cond.methodLink RX5 303 yX4_heldSpots ∈ gw := gw_in (List.mem_of_getElem? (i := 901) (by decide +kernel)) rfl
theorem mlX0_53 : Cond.methodLink RX0 53 yJ9_min_7cf53 ∈ gw := gw_in (List.mem_of_getElem? (i := 622) (by decide +kernel)) rfl
theorem mlX0_65 : Cond.methodLink RX0 65 yX4_keptIn ∈ gw := gw_in (List.mem_of_getElem? (i := 613) (by decide +kernel)) rfl
theorem mlX0_69 : Cond.methodLink RX0 69 yX0_fillWeights ∈ gw := gw_in (List.mem_of_getElem? (i := 605) (by decide +kernel)) rfl
theorem mlX0_73 : Cond.methodLink RX0 73 yX0_fillKeptSets ∈ gw := gw_in (List.mem_of_getElem? (i := 609) (by decide +kernel)) rfl
theorem mlX0_76 : Cond.methodLink RX0 76 yX0_fillTogether ∈ gw := gw_in (List.mem_of_getElem? (i := 614) (by decide +kernel)) rfl
theorem mlX0_79 : Cond.methodLink RX0 79 yX0_sets ∈ gw := gw_in (List.mem_of_getElem? (i := 618) (by decide +kernel)) rfl
theorem mlX0_83 : Cond.methodLink RX0 83 yX4_wholeWeight ∈ gw := gw_in (List.mem_of_getElem? (i := 631) (by decide +kernel)) rfl
theorem mlX0_86 : Cond.methodLink RX0 86 yX0_commonDivisor ∈ gw := gw_in (List.mem_of_getElem? (i := 635) (by decide +kernel)) rfl
theorem mlX0_90 : Cond.methodLink RX0 90 yX4_isMet ∈ gw := gw_in (List.mem_of_getElem? (i := 654) (by decide +kernel)) rfl
theorem mlX0_97 : Cond.methodLink RX0 97 yX4_needsMetBy ∈ gw := gw_in (List.mem_of_getElem? (i := 663) (by decide +kernel)) rfl
theorem mlX0_100 : Cond.methodLink RX0 100 yX4_owedBy ∈ gw := gw_in (List.mem_of_getElem? (i := 672) (by decide +kernel)) rfl
theorem mlX0_103 : Cond.methodLink RX0 103 yX4_worthMetBy ∈ gw := gw_in (List.mem_of_getElem? (i := 681) (by decide +kernel)) rfl
theorem mlX0_106 : Cond.methodLink RX0 106 yJ6_bitCount_0f7a4 ∈ gw := gw_in (List.mem_of_getElem? (i := 701) (by decide +kernel)) rfl
theorem mlX0_111 : Cond.methodLink RX0 111 yX0_fillGainsOfNeed ∈ gw := gw_in (List.mem_of_getElem? (i := 718) (by decide +kernel)) rfl
theorem mlX0_114 : Cond.methodLink RX0 114 yX0_weighGains ∈ gw := gw_in (List.mem_of_getElem? (i := 734) (by decide +kernel)) rfl
theorem mlX0_117 : Cond.methodLink RX0 117 yX0_fillWeighedCosts ∈ gw := gw_in (List.mem_of_getElem? (i := 746) (by decide +kernel)) rfl
theorem mlX0_120 : Cond.methodLink RX0 120 yX0_fillOwedRows ∈ gw := gw_in (List.mem_of_getElem? (i := 760) (by decide +kernel)) rfl
theorem mlX0_123 : Cond.methodLink RX0 123 yX0_weightOfMoreByRows ∈ gw := gw_in (List.mem_of_getElem? (i := 764) (by decide +kernel)) rfl
theorem mlX0_127 : Cond.methodLink RX0 127 yX0_fillGainsOfWorth ∈ gw := gw_in (List.mem_of_getElem? (i := 776) (by decide +kernel)) rfl
theorem mlX0_132 : Cond.methodLink RX0 132 yX0_clearGains ∈ gw := gw_in (List.mem_of_getElem? (i := 722) (by decide +kernel)) rfl
theorem mlX0_135 : Cond.methodLink RX0 135 yX0_addGains ∈ gw := gw_in (List.mem_of_getElem? (i := 726) (by decide +kernel)) rfl
theorem mlX0_142 : Cond.methodLink RX0 142 yJ6_numberOfTrailingZeros_0f7a4 ∈ gw := gw_in (List.mem_of_getElem? (i := 730) (by decide +kernel)) rfl
theorem mlX0_157 : Cond.methodLink RX0 157 yX0_weightOfAllKept ∈ gw := gw_in (List.mem_of_getElem? (i := 750) (by decide +kernel)) rfl
theorem mlX0_161 : Cond.methodLink RX0 161 yX4_owedOf ∈ gw := gw_in (List.mem_of_getElem? (i := 751) (by decide +kernel)) rfl
theorem mlX1_11 : Cond.methodLink RX1 11 yX4_init ∈ gw := gw_in (List.mem_of_getElem? (i := 167) (by decide +kernel)) rfl
theorem mlX1_38 : Cond.methodLink RX1 38 yX4_becomeAs ∈ gw := gw_in (List.mem_of_getElem? (i := 307) (by decide +kernel)) rfl
theorem mlX1_42 : Cond.methodLink RX1 42 yX1_stepOn ∈ gw := gw_in (List.mem_of_getElem? (i := 314) (by decide +kernel)) rfl
theorem mlX1_45 : Cond.methodLink RX1 45 yX1_readItem ∈ gw := gw_in (List.mem_of_getElem? (i := 325) (by decide +kernel)) rfl
theorem mlX1_58 : Cond.methodLink RX1 58 yX1_sortAt ∈ gw := gw_in (List.mem_of_getElem? (i := 318) (by decide +kernel)) rfl
theorem mlX1_62 : Cond.methodLink RX1 62 yJ9_min_7cf53 ∈ gw := gw_in (List.mem_of_getElem? (i := 322) (by decide +kernel)) rfl
theorem mlX1_68 : Cond.methodLink RX1 68 yJ0_length_8abf5 ∈ gw := gw_in (List.mem_of_getElem? (i := 334) (by decide +kernel)) rfl
theorem mlX1_73 : Cond.methodLink RX1 73 yJ0_charAt_5068e ∈ gw := gw_in (List.mem_of_getElem? (i := 344) (by decide +kernel)) rfl
theorem mlX1_77 : Cond.methodLink RX1 77 yX1_wordOfKind ∈ gw := gw_in (List.mem_of_getElem? (i := 420) (by decide +kernel)) rfl
theorem mlX1_81 : Cond.methodLink RX1 81 yX1_isWord ∈ gw := gw_in (List.mem_of_getElem? (i := 330) (by decide +kernel)) rfl
theorem mlX1_101 : Cond.methodLink RX1 101 yX1_readCoin ∈ gw := gw_in (List.mem_of_getElem? (i := 382) (by decide +kernel)) rfl
theorem mlX1_106 : Cond.methodLink RX1 106 yX1_readNeed ∈ gw := gw_in (List.mem_of_getElem? (i := 403) (by decide +kernel)) rfl
theorem mlX1_109 : Cond.methodLink RX1 109 yX1_kindOfWord ∈ gw := gw_in (List.mem_of_getElem? (i := 416) (by decide +kernel)) rfl
theorem mlX1_112 : Cond.methodLink RX1 112 yX1_faultHere ∈ gw := gw_in (List.mem_of_getElem? (i := 395) (by decide +kernel)) rfl
theorem mlX1_115 : Cond.methodLink RX1 115 yX1_readPromise ∈ gw := gw_in (List.mem_of_getElem? (i := 430) (by decide +kernel)) rfl
theorem mlX1_119 : Cond.methodLink RX1 119 yX1_takeNumber ∈ gw := gw_in (List.mem_of_getElem? (i := 386) (by decide +kernel)) rfl
theorem mlX1_124 : Cond.methodLink RX1 124 yX1_passWord ∈ gw := gw_in (List.mem_of_getElem? (i := 391) (by decide +kernel)) rfl
theorem mlX1_127 : Cond.methodLink RX1 127 yJ9_max_7cf53 ∈ gw := gw_in (List.mem_of_getElem? (i := 399) (by decide +kernel)) rfl
theorem mlX1_151 : Cond.methodLink RX1 151 yX4_addPromise ∈ gw := gw_in (List.mem_of_getElem? (i := 441) (by decide +kernel)) rfl
theorem mlX1_166 : Cond.methodLink RX1 166 yX4_addNeed ∈ gw := gw_in (List.mem_of_getElem? (i := 412) (by decide +kernel)) rfl
theorem mlX2_22 : Cond.methodLink RX2 22 yJ9_min_7cf53 ∈ gw := gw_in (List.mem_of_getElem? (i := 847) (by decide +kernel)) rfl
theorem mlX2_28 : Cond.methodLink RX2 28 yJ9_max_7cf53 ∈ gw := gw_in (List.mem_of_getElem? (i := 848) (by decide +kernel)) rfl
theorem mlX2_39 : Cond.methodLink RX2 39 yX4_keptIn ∈ gw := gw_in (List.mem_of_getElem? (i := 884) (by decide +kernel)) rfl
theorem mlX4_68 : Cond.methodLink RX4 68 yX4_drawNext ∈ gw := gw_in (List.mem_of_getElem? (i := 522) (by decide +kernel)) rfl
theorem mlX4_76 : Cond.methodLink RX4 76 yX4_isKept ∈ gw := gw_in (List.mem_of_getElem? (i := 542) (by decide +kernel)) rfl
theorem mlX4_80 : Cond.methodLink RX4 80 yX4_owedOf ∈ gw := gw_in (List.mem_of_getElem? (i := 561) (by decide +kernel)) rfl
theorem mlX4_84 : Cond.methodLink RX4 84 yX4_broughtBy ∈ gw := gw_in (List.mem_of_getElem? (i := 585) (by decide +kernel)) rfl
theorem mlX4_88 : Cond.methodLink RX4 88 yX4_isMet ∈ gw := gw_in (List.mem_of_getElem? (i := 581) (by decide +kernel)) rfl
theorem mlL_9 : Cond.methodLink RL 9 yX5_init ∈ gw := gw_in (List.mem_of_getElem? (i := 57) (by decide +kernel)) rfl
theorem mlL_12 : Cond.methodLink RL 12 yX6_init ∈ gw := gw_in (List.mem_of_getElem? (i := 911) (by decide +kernel)) rfl
theorem mlL_13 : Cond.methodLink RL 13 yX5_feed ∈ gw := gw_in (List.mem_of_getElem? (i := 278) (by decide +kernel)) rfl
theorem mlL_17 : Cond.methodLink RL 17 yX6_feed ∈ gw := gw_in (List.mem_of_getElem? (i := 979) (by decide +kernel)) rfl
theorem mlL_18 : Cond.methodLink RL 18 yX5_wipe ∈ gw := gw_in (List.mem_of_getElem? (i := 295) (by decide +kernel)) rfl
theorem mlL_22 : Cond.methodLink RL 22 yX6_wipe ∈ gw := gw_in (List.mem_of_getElem? (i := 991) (by decide +kernel)) rfl
theorem mlL_23 : Cond.methodLink RL 23 yX5_town ∈ gw := gw_in (List.mem_of_getElem? (i := 299) (by decide +kernel)) rfl
theorem mlL_26 : Cond.methodLink RL 26 yX6_town ∈ gw := gw_in (List.mem_of_getElem? (i := 995) (by decide +kernel)) rfl
theorem mlL_27 : Cond.methodLink RL 27 yX5_coin ∈ gw := gw_in (List.mem_of_getElem? (i := 447) (by decide +kernel)) rfl
theorem mlL_31 : Cond.methodLink RL 31 yX6_coin ∈ gw := gw_in (List.mem_of_getElem? (i := 1062) (by decide +kernel)) rfl
theorem mlL_32 : Cond.methodLink RL 32 yX5_promise ∈ gw := gw_in (List.mem_of_getElem? (i := 454) (by decide +kernel)) rfl
theorem mlL_36 : Cond.methodLink RL 36 yX6_promise ∈ gw := gw_in (List.mem_of_getElem? (i := 1069) (by decide +kernel)) rfl
theorem mlL_37 : Cond.methodLink RL 37 yX5_promiseOf ∈ gw := gw_in (List.mem_of_getElem? (i := 467) (by decide +kernel)) rfl
theorem mlL_40 : Cond.methodLink RL 40 yX6_promiseOf ∈ gw := gw_in (List.mem_of_getElem? (i := 1076) (by decide +kernel)) rfl
theorem mlL_41 : Cond.methodLink RL 41 yX5_change ∈ gw := gw_in (List.mem_of_getElem? (i := 479) (by decide +kernel)) rfl
theorem mlL_44 : Cond.methodLink RL 44 yX6_change ∈ gw := gw_in (List.mem_of_getElem? (i := 1088) (by decide +kernel)) rfl
theorem mlL_45 : Cond.methodLink RL 45 yX5_drop ∈ gw := gw_in (List.mem_of_getElem? (i := 487) (by decide +kernel)) rfl
theorem mlL_48 : Cond.methodLink RL 48 yX6_drop ∈ gw := gw_in (List.mem_of_getElem? (i := 1092) (by decide +kernel)) rfl
theorem mlL_49 : Cond.methodLink RL 49 yX5_need ∈ gw := gw_in (List.mem_of_getElem? (i := 496) (by decide +kernel)) rfl
theorem mlL_52 : Cond.methodLink RL 52 yX6_need ∈ gw := gw_in (List.mem_of_getElem? (i := 1096) (by decide +kernel)) rfl
theorem mlL_53 : Cond.methodLink RL 53 yX5_needOf ∈ gw := gw_in (List.mem_of_getElem? (i := 506) (by decide +kernel)) rfl
theorem mlL_56 : Cond.methodLink RL 56 yX6_needOf ∈ gw := gw_in (List.mem_of_getElem? (i := 1100) (by decide +kernel)) rfl
theorem mlL_57 : Cond.methodLink RL 57 yX5_cast ∈ gw := gw_in (List.mem_of_getElem? (i := 514) (by decide +kernel)) rfl
theorem mlL_60 : Cond.methodLink RL 60 yX6_cast ∈ gw := gw_in (List.mem_of_getElem? (i := 1112) (by decide +kernel)) rfl
theorem mlL_61 : Cond.methodLink RL 61 yX5_lay ∈ gw := gw_in (List.mem_of_getElem? (i := 527) (by decide +kernel)) rfl
theorem mlL_65 : Cond.methodLink RL 65 yX6_lay ∈ gw := gw_in (List.mem_of_getElem? (i := 1125) (by decide +kernel)) rfl
theorem mlL_66 : Cond.methodLink RL 66 yX5_kept ∈ gw := gw_in (List.mem_of_getElem? (i := 534) (by decide +kernel)) rfl
theorem mlL_69 : Cond.methodLink RL 69 yX6_kept ∈ gw := gw_in (List.mem_of_getElem? (i := 1132) (by decide +kernel)) rfl
theorem mlL_70 : Cond.methodLink RL 70 yX5_owes ∈ gw := gw_in (List.mem_of_getElem? (i := 549) (by decide +kernel)) rfl
theorem mlL_73 : Cond.methodLink RL 73 yX6_owes ∈ gw := gw_in (List.mem_of_getElem? (i := 1143) (by decide +kernel)) rfl
theorem mlL_74 : Cond.methodLink RL 74 yX5_brings ∈ gw := gw_in (List.mem_of_getElem? (i := 565) (by decide +kernel)) rfl
theorem mlL_77 : Cond.methodLink RL 77 yX6_brings ∈ gw := gw_in (List.mem_of_getElem? (i := 1159) (by decide +kernel)) rfl
theorem mlL_78 : Cond.methodLink RL 78 yX5_met ∈ gw := gw_in (List.mem_of_getElem? (i := 573) (by decide +kernel)) rfl
theorem mlL_81 : Cond.methodLink RL 81 yX6_met ∈ gw := gw_in (List.mem_of_getElem? (i := 1167) (by decide +kernel)) rfl
theorem mlL_82 : Cond.methodLink RL 82 yX5_weight ∈ gw := gw_in (List.mem_of_getElem? (i := 586) (by decide +kernel)) rfl
theorem mlL_85 : Cond.methodLink RL 85 yX6_weight ∈ gw := gw_in (List.mem_of_getElem? (i := 1179) (by decide +kernel)) rfl
theorem mlL_86 : Cond.methodLink RL 86 yX5_chance ∈ gw := gw_in (List.mem_of_getElem? (i := 594) (by decide +kernel)) rfl
theorem mlL_89 : Cond.methodLink RL 89 yX6_chance ∈ gw := gw_in (List.mem_of_getElem? (i := 1187) (by decide +kernel)) rfl
theorem mlL_90 : Cond.methodLink RL 90 yX5_joint ∈ gw := gw_in (List.mem_of_getElem? (i := 638) (by decide +kernel)) rfl
theorem mlL_93 : Cond.methodLink RL 93 yX6_joint ∈ gw := gw_in (List.mem_of_getElem? (i := 1206) (by decide +kernel)) rfl
theorem mlL_94 : Cond.methodLink RL 94 yX5_sure ∈ gw := gw_in (List.mem_of_getElem? (i := 646) (by decide +kernel)) rfl
theorem mlL_97 : Cond.methodLink RL 97 yX6_sure ∈ gw := gw_in (List.mem_of_getElem? (i := 1210) (by decide +kernel)) rfl
theorem mlL_98 : Cond.methodLink RL 98 yX5_all ∈ gw := gw_in (List.mem_of_getElem? (i := 655) (by decide +kernel)) rfl
theorem mlL_101 : Cond.methodLink RL 101 yX6_all ∈ gw := gw_in (List.mem_of_getElem? (i := 1218) (by decide +kernel)) rfl
theorem mlL_102 : Cond.methodLink RL 102 yX5_mean ∈ gw := gw_in (List.mem_of_getElem? (i := 664) (by decide +kernel)) rfl
theorem mlL_105 : Cond.methodLink RL 105 yX6_mean ∈ gw := gw_in (List.mem_of_getElem? (i := 1222) (by decide +kernel)) rfl
theorem mlL_106 : Cond.methodLink RL 106 yX5_worth ∈ gw := gw_in (List.mem_of_getElem? (i := 673) (by decide +kernel)) rfl
theorem mlL_109 : Cond.methodLink RL 109 yX6_worth ∈ gw := gw_in (List.mem_of_getElem? (i := 1230) (by decide +kernel)) rfl
theorem mlL_110 : Cond.methodLink RL 110 yX5_harm ∈ gw := gw_in (List.mem_of_getElem? (i := 685) (by decide +kernel)) rfl
theorem mlL_113 : Cond.methodLink RL 113 yX6_harm ∈ gw := gw_in (List.mem_of_getElem? (i := 1238) (by decide +kernel)) rfl
theorem mlL_114 : Cond.methodLink RL 114 yX5_likely ∈ gw := gw_in (List.mem_of_getElem? (i := 693) (by decide +kernel)) rfl
theorem mlL_117 : Cond.methodLink RL 117 yX6_likely ∈ gw := gw_in (List.mem_of_getElem? (i := 1246) (by decide +kernel)) rfl
theorem mlL_118 : Cond.methodLink RL 118 yX5_fewest ∈ gw := gw_in (List.mem_of_getElem? (i := 707) (by decide +kernel)) rfl
theorem mlL_121 : Cond.methodLink RL 121 yX6_fewest ∈ gw := gw_in (List.mem_of_getElem? (i := 1253) (by decide +kernel)) rfl
theorem mlL_122 : Cond.methodLink RL 122 yX5_cheapest ∈ gw := gw_in (List.mem_of_getElem? (i := 738) (by decide +kernel)) rfl
theorem mlL_125 : Cond.methodLink RL 125 yX6_cheapest ∈ gw := gw_in (List.mem_of_getElem? (i := 1264) (by decide +kernel)) rfl
theorem mlL_126 : Cond.methodLink RL 126 yX5_most ∈ gw := gw_in (List.mem_of_getElem? (i := 752) (by decide +kernel)) rfl
theorem mlL_129 : Cond.methodLink RL 129 yX6_most ∈ gw := gw_in (List.mem_of_getElem? (i := 1268) (by decide +kernel)) rfl
theorem mlL_130 : Cond.methodLink RL 130 yX5_best ∈ gw := gw_in (List.mem_of_getElem? (i := 768) (by decide +kernel)) rfl
theorem mlL_133 : Cond.methodLink RL 133 yX6_best ∈ gw := gw_in (List.mem_of_getElem? (i := 1272) (by decide +kernel)) rfl
theorem mlL_134 : Cond.methodLink RL 134 yX5_helps ∈ gw := gw_in (List.mem_of_getElem? (i := 780) (by decide +kernel)) rfl
theorem mlL_137 : Cond.methodLink RL 137 yX6_helps ∈ gw := gw_in (List.mem_of_getElem? (i := 1276) (by decide +kernel)) rfl
theorem mlL_138 : Cond.methodLink RL 138 yX5_hangs ∈ gw := gw_in (List.mem_of_getElem? (i := 789) (by decide +kernel)) rfl
theorem mlL_141 : Cond.methodLink RL 141 yX6_hangs ∈ gw := gw_in (List.mem_of_getElem? (i := 1280) (by decide +kernel)) rfl
theorem mlL_142 : Cond.methodLink RL 142 yX5_asks ∈ gw := gw_in (List.mem_of_getElem? (i := 798) (by decide +kernel)) rfl
theorem mlL_145 : Cond.methodLink RL 145 yX6_asks ∈ gw := gw_in (List.mem_of_getElem? (i := 1288) (by decide +kernel)) rfl
theorem mlL_146 : Cond.methodLink RL 146 yX5_apart ∈ gw := gw_in (List.mem_of_getElem? (i := 803) (by decide +kernel)) rfl
theorem mlL_149 : Cond.methodLink RL 149 yX6_apart ∈ gw := gw_in (List.mem_of_getElem? (i := 1292) (by decide +kernel)) rfl
theorem mlL_150 : Cond.methodLink RL 150 yX5_tries ∈ gw := gw_in (List.mem_of_getElem? (i := 808) (by decide +kernel)) rfl
theorem mlL_153 : Cond.methodLink RL 153 yX6_tries ∈ gw := gw_in (List.mem_of_getElem? (i := 1296) (by decide +kernel)) rfl
theorem mlL_154 : Cond.methodLink RL 154 yX5_seed ∈ gw := gw_in (List.mem_of_getElem? (i := 813) (by decide +kernel)) rfl
theorem mlL_157 : Cond.methodLink RL 157 yX6_seed ∈ gw := gw_in (List.mem_of_getElem? (i := 1300) (by decide +kernel)) rfl
theorem mlL_158 : Cond.methodLink RL 158 yX5_hold ∈ gw := gw_in (List.mem_of_getElem? (i := 817) (by decide +kernel)) rfl
theorem mlL_161 : Cond.methodLink RL 161 yX6_hold ∈ gw := gw_in (List.mem_of_getElem? (i := 1304) (by decide +kernel)) rfl
theorem mlL_162 : Cond.methodLink RL 162 yX5_as ∈ gw := gw_in (List.mem_of_getElem? (i := 824) (by decide +kernel)) rfl
theorem mlL_165 : Cond.methodLink RL 165 yX6_as ∈ gw := gw_in (List.mem_of_getElem? (i := 1308) (by decide +kernel)) rfl
theorem mlL_166 : Cond.methodLink RL 166 yX5_sheet ∈ gw := gw_in (List.mem_of_getElem? (i := 835) (by decide +kernel)) rfl
theorem mlL_169 : Cond.methodLink RL 169 yX6_sheet ∈ gw := gw_in (List.mem_of_getElem? (i := 1315) (by decide +kernel)) rfl
theorem mlL_170 : Cond.methodLink RL 170 yX5_write ∈ gw := gw_in (List.mem_of_getElem? (i := 849) (by decide +kernel)) rfl
theorem mlL_173 : Cond.methodLink RL 173 yX6_write ∈ gw := gw_in (List.mem_of_getElem? (i := 1322) (by decide +kernel)) rfl
theorem mlL_174 : Cond.methodLink RL 174 yX5_copy ∈ gw := gw_in (List.mem_of_getElem? (i := 862) (by decide +kernel)) rfl
theorem mlL_178 : Cond.methodLink RL 178 yX6_copy ∈ gw := gw_in (List.mem_of_getElem? (i := 1326) (by decide +kernel)) rfl
theorem mlL_179 : Cond.methodLink RL 179 yX5_load ∈ gw := gw_in (List.mem_of_getElem? (i := 871) (by decide +kernel)) rfl
theorem mlL_182 : Cond.methodLink RL 182 yX6_load ∈ gw := gw_in (List.mem_of_getElem? (i := 1330) (by decide +kernel)) rfl
theorem mlL_183 : Cond.methodLink RL 183 yX5_judge ∈ gw := gw_in (List.mem_of_getElem? (i := 875) (by decide +kernel)) rfl
theorem mlL_186 : Cond.methodLink RL 186 yX6_judge ∈ gw := gw_in (List.mem_of_getElem? (i := 1338) (by decide +kernel)) rfl
theorem mlL_187 : Cond.methodLink RL 187 yX5_image ∈ gw := gw_in (List.mem_of_getElem? (i := 885) (by decide +kernel)) rfl
theorem mlL_190 : Cond.methodLink RL 190 yX6_image ∈ gw := gw_in (List.mem_of_getElem? (i := 1342) (by decide +kernel)) rfl
theorem mlL_191 : Cond.methodLink RL 191 yX5_undo ∈ gw := gw_in (List.mem_of_getElem? (i := 889) (by decide +kernel)) rfl
theorem mlL_194 : Cond.methodLink RL 194 yX6_undo ∈ gw := gw_in (List.mem_of_getElem? (i := 1346) (by decide +kernel)) rfl
theorem mlL_195 : Cond.methodLink RL 195 yX5_tear ∈ gw := gw_in (List.mem_of_getElem? (i := 893) (by decide +kernel)) rfl
theorem mlL_198 : Cond.methodLink RL 198 yX6_tear ∈ gw := gw_in (List.mem_of_getElem? (i := 1350) (by decide +kernel)) rfl
theorem mlL_199 : Cond.methodLink RL 199 yX5_count ∈ gw := gw_in (List.mem_of_getElem? (i := 897) (by decide +kernel)) rfl
theorem mlL_202 : Cond.methodLink RL 202 yX6_count ∈ gw := gw_in (List.mem_of_getElem? (i := 1354) (by decide +kernel)) rfl
theorem mlL_203 : Cond.methodLink RL 203 yX5_status ∈ gw := gw_in (List.mem_of_getElem? (i := 905) (by decide +kernel)) rfl
theorem mlL_206 : Cond.methodLink RL 206 yX6_status ∈ gw := gw_in (List.mem_of_getElem? (i := 1358) (by decide +kernel)) rfl
theorem mlX6_47 : Cond.methodLink RX6 47 yX6_in ∈ gw := gw_in (List.mem_of_getElem? (i := 983) (by decide +kernel)) rfl
theorem mlX6_51 : Cond.methodLink RX6 51 yX6_finding ∈ gw := gw_in (List.mem_of_getElem? (i := 986) (by decide +kernel)) rfl
theorem mlX6_62 : Cond.methodLink RX6 62 yX6_byteAt ∈ gw := gw_in (List.mem_of_getElem? (i := 1010) (by decide +kernel)) rfl
theorem mlX6_74 : Cond.methodLink RX6 74 yJ0_length_8abf5 ∈ gw := gw_in (List.mem_of_getElem? (i := 1027) (by decide +kernel)) rfl
theorem mlX6_80 : Cond.methodLink RX6 80 yJ0_charAt_5068e ∈ gw := gw_in (List.mem_of_getElem? (i := 1028) (by decide +kernel)) rfl
theorem mlX6_84 : Cond.methodLink RX6 84 yX6_isWord ∈ gw := gw_in (List.mem_of_getElem? (i := 1023) (by decide +kernel)) rfl
theorem mlX6_88 : Cond.methodLink RX6 88 yX6_next ∈ gw := gw_in (List.mem_of_getElem? (i := 1006) (by decide +kernel)) rfl
theorem mlX6_91 : Cond.methodLink RX6 91 yX6_isNumber ∈ gw := gw_in (List.mem_of_getElem? (i := 1037) (by decide +kernel)) rfl
theorem mlX6_98 : Cond.methodLink RX6 98 yX6_takesNumber ∈ gw := gw_in (List.mem_of_getElem? (i := 1033) (by decide +kernel)) rfl
theorem mlX6_102 : Cond.methodLink RX6 102 yX6_takes ∈ gw := gw_in (List.mem_of_getElem? (i := 1019) (by decide +kernel)) rfl
theorem mlX6_115 : Cond.methodLink RX6 115 yX6_takesCoin ∈ gw := gw_in (List.mem_of_getElem? (i := 1029) (by decide +kernel)) rfl
theorem mlX6_121 : Cond.methodLink RX6 121 yX6_takesNeed ∈ gw := gw_in (List.mem_of_getElem? (i := 1043) (by decide +kernel)) rfl
theorem mlX6_138 : Cond.methodLink RX6 138 yX6_takesPromise ∈ gw := gw_in (List.mem_of_getElem? (i := 1055) (by decide +kernel)) rfl
theorem mlX6_145 : Cond.methodLink RX6 145 yX6_takesItem ∈ gw := gw_in (List.mem_of_getElem? (i := 1014) (by decide +kernel)) rfl
theorem mlX6_148 : Cond.methodLink RX6 148 yX6_carry ∈ gw := gw_in (List.mem_of_getElem? (i := 999) (by decide +kernel)) rfl
theorem mlX6_152 : Cond.methodLink RX6 152 yX6_takesAll ∈ gw := gw_in (List.mem_of_getElem? (i := 1002) (by decide +kernel)) rfl
theorem mlX6_155 : Cond.methodLink RX6 155 yX6_isCoin ∈ gw := gw_in (List.mem_of_getElem? (i := 1066) (by decide +kernel)) rfl
theorem mlX6_158 : Cond.methodLink RX6 158 yX6_isGood ∈ gw := gw_in (List.mem_of_getElem? (i := 1073) (by decide +kernel)) rfl
theorem mlX6_161 : Cond.methodLink RX6 161 yX6_isPromise ∈ gw := gw_in (List.mem_of_getElem? (i := 1080) (by decide +kernel)) rfl
theorem mlX6_164 : Cond.methodLink RX6 164 yX6_its ∈ gw := gw_in (List.mem_of_getElem? (i := 1084) (by decide +kernel)) rfl
theorem mlX6_168 : Cond.methodLink RX6 168 yX6_isNeed ∈ gw := gw_in (List.mem_of_getElem? (i := 1104) (by decide +kernel)) rfl
theorem mlX6_171 : Cond.methodLink RX6 171 yX6_needIts ∈ gw := gw_in (List.mem_of_getElem? (i := 1108) (by decide +kernel)) rfl
theorem mlX6_174 : Cond.methodLink RX6 174 yX6_heads ∈ gw := gw_in (List.mem_of_getElem? (i := 1140) (by decide +kernel)) rfl
theorem mlX6_177 : Cond.methodLink RX6 177 yX6_owesOf ∈ gw := gw_in (List.mem_of_getElem? (i := 1155) (by decide +kernel)) rfl
theorem mlX6_181 : Cond.methodLink RX6 181 yX6_bringsBy ∈ gw := gw_in (List.mem_of_getElem? (i := 1163) (by decide +kernel)) rfl
theorem mlX6_184 : Cond.methodLink RX6 184 yX6_isMet ∈ gw := gw_in (List.mem_of_getElem? (i := 1175) (by decide +kernel)) rfl
theorem mlX6_188 : Cond.methodLink RX6 188 yX6_draw ∈ gw := gw_in (List.mem_of_getElem? (i := 1120) (by decide +kernel)) rfl
theorem mlX6_191 : Cond.methodLink RX6 191 yX6_thrown ∈ gw := gw_in (List.mem_of_getElem? (i := 1116) (by decide +kernel)) rfl
theorem mlX6_194 : Cond.methodLink RX6 194 yX6_isThrow ∈ gw := gw_in (List.mem_of_getElem? (i := 1129) (by decide +kernel)) rfl
theorem mlX6_197 : Cond.methodLink RX6 197 yX6_keptIn ∈ gw := gw_in (List.mem_of_getElem? (i := 1136) (by decide +kernel)) rfl
theorem mlX6_200 : Cond.methodLink RX6 200 yX6_isSet ∈ gw := gw_in (List.mem_of_getElem? (i := 1147) (by decide +kernel)) rfl
theorem mlX6_203 : Cond.methodLink RX6 203 yX6_owesBy ∈ gw := gw_in (List.mem_of_getElem? (i := 1151) (by decide +kernel)) rfl
theorem mlX6_206 : Cond.methodLink RX6 206 yX6_metBy ∈ gw := gw_in (List.mem_of_getElem? (i := 1171) (by decide +kernel)) rfl
theorem mlX6_212 : Cond.methodLink RX6 212 yX6_weightOf ∈ gw := gw_in (List.mem_of_getElem? (i := 1183) (by decide +kernel)) rfl
theorem mlX6_215 : Cond.methodLink RX6 215 yX6_isPart ∈ gw := gw_in (List.mem_of_getElem? (i := 1191) (by decide +kernel)) rfl
theorem mlX6_218 : Cond.methodLink RX6 218 yX6_findThrows ∈ gw := gw_in (List.mem_of_getElem? (i := 1194) (by decide +kernel)) rfl
theorem mlX6_221 : Cond.methodLink RX6 221 yX6_jointOf ∈ gw := gw_in (List.mem_of_getElem? (i := 1198) (by decide +kernel)) rfl
theorem mlX6_225 : Cond.methodLink RX6 225 yX6_told ∈ gw := gw_in (List.mem_of_getElem? (i := 1202) (by decide +kernel)) rfl
theorem mlX6_228 : Cond.methodLink RX6 228 yX6_sureOf ∈ gw := gw_in (List.mem_of_getElem? (i := 1214) (by decide +kernel)) rfl
theorem mlX6_231 : Cond.methodLink RX6 231 yX6_meanOf ∈ gw := gw_in (List.mem_of_getElem? (i := 1226) (by decide +kernel)) rfl
theorem mlX6_234 : Cond.methodLink RX6 234 yX6_worthOf ∈ gw := gw_in (List.mem_of_getElem? (i := 1234) (by decide +kernel)) rfl
theorem mlX6_237 : Cond.methodLink RX6 237 yX6_harmOf ∈ gw := gw_in (List.mem_of_getElem? (i := 1242) (by decide +kernel)) rfl
theorem mlX6_240 : Cond.methodLink RX6 240 yX6_many ∈ gw := gw_in (List.mem_of_getElem? (i := 1250) (by decide +kernel)) rfl
theorem mlX6_243 : Cond.methodLink RX6 243 yX6_isChance ∈ gw := gw_in (List.mem_of_getElem? (i := 1257) (by decide +kernel)) rfl
theorem mlX6_246 : Cond.methodLink RX6 246 yX6_isSure ∈ gw := gw_in (List.mem_of_getElem? (i := 1260) (by decide +kernel)) rfl
theorem mlX6_250 : Cond.methodLink RX6 250 yX6_hangsBy ∈ gw := gw_in (List.mem_of_getElem? (i := 1284) (by decide +kernel)) rfl
theorem mlX6_253 : Cond.methodLink RX6 253 yX6_isUnder ∈ gw := gw_in (List.mem_of_getElem? (i := 1312) (by decide +kernel)) rfl
theorem mlX6_256 : Cond.methodLink RX6 256 yX6_isSheet ∈ gw := gw_in (List.mem_of_getElem? (i := 1319) (by decide +kernel)) rfl
theorem mlX6_259 : Cond.methodLink RX6 259 yX6_lacks ∈ gw := gw_in (List.mem_of_getElem? (i := 1334) (by decide +kernel)) rfl
theorem mlJ0_335 : Cond.methodLink RJ0 335 yJ0_coder_7d493 ∈ gw := gw_in (List.mem_of_getElem? (i := 338) (by decide +kernel)) rfl
theorem mlJ0_492 : Cond.methodLink RJ0 492 yJ0_isLatin1_aae02 ∈ gw := gw_in (List.mem_of_getElem? (i := 348) (by decide +kernel)) rfl
theorem mlJ0_495 : Cond.methodLink RJ0 495 yJ1_charAt_3b067 ∈ gw := gw_in (List.mem_of_getElem? (i := 352) (by decide +kernel)) rfl
theorem mlJ0_1059 : Cond.methodLink RJ0 1059 yJ3_checkIndex_8e157 ∈ gw := gw_in (List.mem_of_getElem? (i := 360) (by decide +kernel)) rfl
theorem mlJ1_9 : Cond.methodLink RJ1 9 yJ0_checkIndex_df160 ∈ gw := gw_in (List.mem_of_getElem? (i := 355) (by decide +kernel)) rfl
theorem mlJ2_414 : Cond.methodLink RJ2 414 yJ0_checkIndex_df160 ∈ gw := gw_in (List.mem_of_getElem? (i := 372) (by decide +kernel)) rfl
