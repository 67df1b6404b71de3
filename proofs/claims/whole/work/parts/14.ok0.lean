/-! ===== the methods: their tables are right, their words; printed by wip/whole/mk12.py ===== -/
theorem okX6_next : OkM mX6_next := OkM.of (lks := lks_RX6) (N := 220) lkp_RX6 rfl (by decide +kernel)
theorem oyX6_next : OkY mX6_next 0 := ⟨gw_in (List.mem_of_getElem? (i := 1009) (by decide +kernel)) rfl, gw_in (List.mem_of_getElem? (i := 47) (by decide +kernel)) rfl, by decide +kernel, by decide⟩
theorem iyX6_next : Cond.instanceMethod yX6_next ∈ gw := gw_in (List.mem_of_getElem? (i := 1008) (by decide +kernel)) rfl
theorem seX6_next : Cond.selects RX6 yX6_next yX6_next ∈ gw := gw_in (List.mem_of_getElem? (i := 6) (by decide +kernel)) rfl
theorem okX6_takesItem : OkM mX6_takesItem := OkM.of (lks := lks_RX6) (N := 167) lkp_RX6 rfl (by decide +kernel)
theorem oyX6_takesItem : OkY mX6_takesItem 0 := ⟨gw_in (List.mem_of_getElem? (i := 1017) (by decide +kernel)) rfl, gw_in (List.mem_of_getElem? (i := 47) (by decide +kernel)) rfl, by decide +kernel, by decide⟩
theorem iyX6_takesItem : Cond.instanceMethod yX6_takesItem ∈ gw := gw_in (List.mem_of_getElem? (i := 1016) (by decide +kernel)) rfl
theorem seX6_takesItem : Cond.selects RX6 yX6_takesItem yX6_takesItem ∈ gw := gw_in (List.mem_of_getElem? (i := 8) (by decide +kernel)) rfl
theorem okX6_helps : OkM mX6_helps := OkM.of (lks := lks_RX6) (N := 146) lkp_RX6 rfl (by decide +kernel)
theorem oyX6_helps : OkY mX6_helps 0 := ⟨gw_in (List.mem_of_getElem? (i := 1279) (by decide +kernel)) rfl, gw_in (List.mem_of_getElem? (i := 47) (by decide +kernel)) rfl, by decide +kernel, by decide⟩
theorem iyX6_helps : Cond.instanceMethod yX6_helps ∈ gw := gw_in (List.mem_of_getElem? (i := 1277) (by decide +kernel)) rfl
theorem seX6_helps : Cond.selects RX6 yX6_helps yX6_helps ∈ gw := gw_in (List.mem_of_getElem? (i := 1278) (by decide +kernel)) rfl
theorem okX5_joint : OkM mX5_joint := OkM.of (lks := lks_RX5) (N := 119) lkp_RX5 rfl (by decide +kernel)
theorem oyX5_joint : OkY mX5_joint 4 := ⟨gw_in (List.mem_of_getElem? (i := 641) (by decide +kernel)) rfl, gw_in (List.mem_of_getElem? (i := 41) (by decide +kernel)) rfl, by decide +kernel, by decide⟩
theorem iyX5_joint : Cond.instanceMethod yX5_joint ∈ gw := gw_in (List.mem_of_getElem? (i := 639) (by decide +kernel)) rfl
theorem seX5_joint : Cond.selects RX5 yX5_joint yX5_joint ∈ gw := gw_in (List.mem_of_getElem? (i := 640) (by decide +kernel)) rfl
theorem okX6_likely : OkM mX6_likely := OkM.of (lks := lks_RX6) (N := 118) lkp_RX6 rfl (by decide +kernel)
theorem oyX6_likely : OkY mX6_likely 1 := ⟨gw_in (List.mem_of_getElem? (i := 1249) (by decide +kernel)) rfl, gw_in (List.mem_of_getElem? (i := 47) (by decide +kernel)) rfl, by decide +kernel, by decide⟩
theorem iyX6_likely : Cond.instanceMethod yX6_likely ∈ gw := gw_in (List.mem_of_getElem? (i := 1247) (by decide +kernel)) rfl
theorem seX6_likely : Cond.selects RX6 yX6_likely yX6_likely ∈ gw := gw_in (List.mem_of_getElem? (i := 1248) (by decide +kernel)) rfl
theorem okX6_most : OkM mX6_most := OkM.of (lks := lks_RX6) (N := 114) lkp_RX6 rfl (by decide +kernel)
theorem oyX6_most : OkY mX6_most 3 := ⟨gw_in (List.mem_of_getElem? (i := 1271) (by decide +kernel)) rfl, gw_in (List.mem_of_getElem? (i := 47) (by decide +kernel)) rfl, by decide +kernel, by decide⟩
theorem iyX6_most : Cond.instanceMethod yX6_most ∈ gw := gw_in (List.mem_of_getElem? (i := 1269) (by decide +kernel)) rfl
theorem seX6_most : Cond.selects RX6 yX6_most yX6_most ∈ gw := gw_in (List.mem_of_getElem? (i := 1270) (by decide +kernel)) rfl
theorem okX0_likeliestCount : OkM mX0_likeliestCount := OkM.of (lks := lks_RX0) (N := 105) lkp_RX0 rfl (by decide +kernel)
theorem oyX0_likeliestCount : OkY mX0_likeliestCount 1 := ⟨gw_in (List.mem_of_getElem? (i := 700) (by decide +kernel)) rfl, gw_in (List.mem_of_getElem? (i := 45) (by decide +kernel)) rfl, by decide +kernel, by decide⟩
theorem iyX0_likeliestCount : Cond.instanceMethod yX0_likeliestCount ∈ gw := gw_in (List.mem_of_getElem? (i := 698) (by decide +kernel)) rfl
theorem seX0_likeliestCount : Cond.selects RX0 yX0_likeliestCount yX0_likeliestCount ∈ gw := gw_in (List.mem_of_getElem? (i := 699) (by decide +kernel)) rfl
theorem okX6_jointOf : OkM mX6_jointOf := OkM.of (lks := lks_RX6) (N := 96) lkp_RX6 rfl (by decide +kernel)
theorem oyX6_jointOf : OkY mX6_jointOf 3 := ⟨gw_in (List.mem_of_getElem? (i := 1201) (by decide +kernel)) rfl, gw_in (List.mem_of_getElem? (i := 47) (by decide +kernel)) rfl, by decide +kernel, by decide⟩
theorem iyX6_jointOf : Cond.instanceMethod yX6_jointOf ∈ gw := gw_in (List.mem_of_getElem? (i := 1200) (by decide +kernel)) rfl
theorem seX6_jointOf : Cond.selects RX6 yX6_jointOf yX6_jointOf ∈ gw := gw_in (List.mem_of_getElem? (i := 31) (by decide +kernel)) rfl
theorem okX4_addPromise : OkM mX4_addPromise := OkM.of (lks := lks_RX4) (N := 91) lkp_RX4 rfl (by decide +kernel)
theorem oyX4_addPromise : OkY mX4_addPromise 6 := ⟨gw_in (List.mem_of_getElem? (i := 444) (by decide +kernel)) rfl, gw_in (List.mem_of_getElem? (i := 42) (by decide +kernel)) rfl, by decide +kernel, by decide⟩
theorem iyX4_addPromise : Cond.instanceMethod yX4_addPromise ∈ gw := gw_in (List.mem_of_getElem? (i := 442) (by decide +kernel)) rfl
theorem seX4_addPromise : Cond.selects RX4 yX4_addPromise yX4_addPromise ∈ gw := gw_in (List.mem_of_getElem? (i := 443) (by decide +kernel)) rfl
theorem okX6_takesCoin : OkM mX6_takesCoin := OkM.of (lks := lks_RX6) (N := 88) lkp_RX6 rfl (by decide +kernel)
theorem oyX6_takesCoin : OkY mX6_takesCoin 0 := ⟨gw_in (List.mem_of_getElem? (i := 1032) (by decide +kernel)) rfl, gw_in (List.mem_of_getElem? (i := 47) (by decide +kernel)) rfl, by decide +kernel, by decide⟩
theorem iyX6_takesCoin : Cond.instanceMethod yX6_takesCoin ∈ gw := gw_in (List.mem_of_getElem? (i := 1031) (by decide +kernel)) rfl
theorem seX6_takesCoin : Cond.selects RX6 yX6_takesCoin yX6_takesCoin ∈ gw := gw_in (List.mem_of_getElem? (i := 11) (by decide +kernel)) rfl
theorem okX0_fewestFor : OkM mX0_fewestFor := OkM.of (lks := lks_RX0) (N := 85) lkp_RX0 rfl (by decide +kernel)
theorem oyX0_fewestFor : OkY mX0_fewestFor 3 := ⟨gw_in (List.mem_of_getElem? (i := 717) (by decide +kernel)) rfl, gw_in (List.mem_of_getElem? (i := 45) (by decide +kernel)) rfl, by decide +kernel, by decide⟩
theorem iyX0_fewestFor : Cond.instanceMethod yX0_fewestFor ∈ gw := gw_in (List.mem_of_getElem? (i := 715) (by decide +kernel)) rfl
theorem seX0_fewestFor : Cond.selects RX0 yX0_fewestFor yX0_fewestFor ∈ gw := gw_in (List.mem_of_getElem? (i := 716) (by decide +kernel)) rfl
theorem okX6_feed : OkM mX6_feed := OkM.of (lks := lks_RX6) (N := 80) lkp_RX6 rfl (by decide +kernel)
theorem oyX6_feed : OkY mX6_feed 2 := ⟨gw_in (List.mem_of_getElem? (i := 982) (by decide +kernel)) rfl, gw_in (List.mem_of_getElem? (i := 47) (by decide +kernel)) rfl, by decide +kernel, by decide⟩
theorem iyX6_feed : Cond.instanceMethod yX6_feed ∈ gw := gw_in (List.mem_of_getElem? (i := 980) (by decide +kernel)) rfl
theorem seX6_feed : Cond.selects RX6 yX6_feed yX6_feed ∈ gw := gw_in (List.mem_of_getElem? (i := 981) (by decide +kernel)) rfl
theorem okX6_coin : OkM mX6_coin := OkM.of (lks := lks_RX6) (N := 77) lkp_RX6 rfl (by decide +kernel)
theorem oyX6_coin : OkY mX6_coin 3 := ⟨gw_in (List.mem_of_getElem? (i := 1065) (by decide +kernel)) rfl, gw_in (List.mem_of_getElem? (i := 47) (by decide +kernel)) rfl, by decide +kernel, by decide⟩
theorem iyX6_coin : Cond.instanceMethod yX6_coin ∈ gw := gw_in (List.mem_of_getElem? (i := 1063) (by decide +kernel)) rfl
theorem seX6_coin : Cond.selects RX6 yX6_coin yX6_coin ∈ gw := gw_in (List.mem_of_getElem? (i := 1064) (by decide +kernel)) rfl
theorem okX5_write : OkM mX5_write := OkM.of (lks := lks_RX5) (N := 73) lkp_RX5 rfl (by decide +kernel)
theorem oyX5_write : OkY mX5_write 3 := ⟨gw_in (List.mem_of_getElem? (i := 852) (by decide +kernel)) rfl, gw_in (List.mem_of_getElem? (i := 41) (by decide +kernel)) rfl, by decide +kernel, by decide⟩
theorem iyX5_write : Cond.instanceMethod yX5_write ∈ gw := gw_in (List.mem_of_getElem? (i := 850) (by decide +kernel)) rfl
theorem seX5_write : Cond.selects RX5 yX5_write yX5_write ∈ gw := gw_in (List.mem_of_getElem? (i := 851) (by decide +kernel)) rfl
theorem okX1_sortAt : OkM mX1_sortAt := OkM.of (lks := lks_RX1) (N := 67) lkp_RX1 rfl (by decide +kernel)
theorem oyX1_sortAt : OkY mX1_sortAt 1 := ⟨gw_in (List.mem_of_getElem? (i := 321) (by decide +kernel)) rfl, gw_in (List.mem_of_getElem? (i := 44) (by decide +kernel)) rfl, by decide +kernel, by decide⟩
theorem iyX1_sortAt : Cond.instanceMethod yX1_sortAt ∈ gw := gw_in (List.mem_of_getElem? (i := 319) (by decide +kernel)) rfl
theorem seX1_sortAt : Cond.selects RX1 yX1_sortAt yX1_sortAt ∈ gw := gw_in (List.mem_of_getElem? (i := 320) (by decide +kernel)) rfl
theorem okX0_weightOfAllMet : OkM mX0_weightOfAllMet := OkM.of (lks := lks_RX0) (N := 65) lkp_RX0 rfl (by decide +kernel)
theorem oyX0_weightOfAllMet : OkY mX0_weightOfAllMet 1 := ⟨gw_in (List.mem_of_getElem? (i := 662) (by decide +kernel)) rfl, gw_in (List.mem_of_getElem? (i := 45) (by decide +kernel)) rfl, by decide +kernel, by decide⟩
theorem iyX0_weightOfAllMet : Cond.instanceMethod yX0_weightOfAllMet ∈ gw := gw_in (List.mem_of_getElem? (i := 660) (by decide +kernel)) rfl
theorem seX0_weightOfAllMet : Cond.selects RX0 yX0_weightOfAllMet yX0_weightOfAllMet ∈ gw := gw_in (List.mem_of_getElem? (i := 661) (by decide +kernel)) rfl
theorem okX6_owesBy : OkM mX6_owesBy := OkM.of (lks := lks_RX6) (N := 62) lkp_RX6 rfl (by decide +kernel)
theorem oyX6_owesBy : OkY mX6_owesBy 2 := ⟨gw_in (List.mem_of_getElem? (i := 1154) (by decide +kernel)) rfl, gw_in (List.mem_of_getElem? (i := 47) (by decide +kernel)) rfl, by decide +kernel, by decide⟩
theorem iyX6_owesBy : Cond.instanceMethod yX6_owesBy ∈ gw := gw_in (List.mem_of_getElem? (i := 1153) (by decide +kernel)) rfl
theorem seX6_owesBy : Cond.selects RX6 yX6_owesBy yX6_owesBy ∈ gw := gw_in (List.mem_of_getElem? (i := 24) (by decide +kernel)) rfl
theorem okX6_bringsBy : OkM mX6_bringsBy := OkM.of (lks := lks_RX6) (N := 59) lkp_RX6 rfl (by decide +kernel)
theorem oyX6_bringsBy : OkY mX6_bringsBy 2 := ⟨gw_in (List.mem_of_getElem? (i := 1166) (by decide +kernel)) rfl, gw_in (List.mem_of_getElem? (i := 47) (by decide +kernel)) rfl, by decide +kernel, by decide⟩
theorem iyX6_bringsBy : Cond.instanceMethod yX6_bringsBy ∈ gw := gw_in (List.mem_of_getElem? (i := 1165) (by decide +kernel)) rfl
theorem seX6_bringsBy : Cond.selects RX6 yX6_bringsBy yX6_bringsBy ∈ gw := gw_in (List.mem_of_getElem? (i := 26) (by decide +kernel)) rfl
theorem okX6_joint : OkM mX6_joint := OkM.of (lks := lks_RX6) (N := 57) lkp_RX6 rfl (by decide +kernel)
theorem oyX6_joint : OkY mX6_joint 4 := ⟨gw_in (List.mem_of_getElem? (i := 1209) (by decide +kernel)) rfl, gw_in (List.mem_of_getElem? (i := 47) (by decide +kernel)) rfl, by decide +kernel, by decide⟩
theorem iyX6_joint : Cond.instanceMethod yX6_joint ∈ gw := gw_in (List.mem_of_getElem? (i := 1207) (by decide +kernel)) rfl
theorem seX6_joint : Cond.selects RX6 yX6_joint yX6_joint ∈ gw := gw_in (List.mem_of_getElem? (i := 1208) (by decide +kernel)) rfl
theorem okX4_tossCoins : OkM mX4_tossCoins := OkM.of (lks := lks_RX4) (N := 55) lkp_RX4 rfl (by decide +kernel)
theorem oyX4_tossCoins : OkY mX4_tossCoins 0 := ⟨gw_in (List.mem_of_getElem? (i := 521) (by decide +kernel)) rfl, gw_in (List.mem_of_getElem? (i := 42) (by decide +kernel)) rfl, by decide +kernel, by decide⟩
theorem iyX4_tossCoins : Cond.instanceMethod yX4_tossCoins ∈ gw := gw_in (List.mem_of_getElem? (i := 519) (by decide +kernel)) rfl
theorem seX4_tossCoins : Cond.selects RX4 yX4_tossCoins yX4_tossCoins ∈ gw := gw_in (List.mem_of_getElem? (i := 520) (by decide +kernel)) rfl
theorem okX5_feed : OkM mX5_feed := OkM.of (lks := lks_RX5) (N := 54) lkp_RX5 rfl (by decide +kernel)
theorem oyX5_feed : OkY mX5_feed 2 := ⟨gw_in (List.mem_of_getElem? (i := 281) (by decide +kernel)) rfl, gw_in (List.mem_of_getElem? (i := 41) (by decide +kernel)) rfl, by decide +kernel, by decide⟩
theorem iyX5_feed : Cond.instanceMethod yX5_feed ∈ gw := gw_in (List.mem_of_getElem? (i := 279) (by decide +kernel)) rfl
theorem seX5_feed : Cond.selects RX5 yX5_feed yX5_feed ∈ gw := gw_in (List.mem_of_getElem? (i := 280) (by decide +kernel)) rfl
theorem okX6_isUnder : OkM mX6_isUnder := OkM.of (lks := lks_RX6) (N := 52) lkp_RX6 rfl (by decide +kernel)
theorem oyX6_isUnder : OkY mX6_isUnder 2 := ⟨gw_in (List.mem_of_getElem? (i := 1314) (by decide +kernel)) rfl, gw_in (List.mem_of_getElem? (i := 47) (by decide +kernel)) rfl, by decide +kernel, by decide⟩
theorem syX6_isUnder : Cond.static yX6_isUnder ∈ gw := gw_in (List.mem_of_getElem? (i := 1313) (by decide +kernel)) rfl
theorem okX0_weighedOwed : OkM mX0_weighedOwed := OkM.of (lks := lks_RX0) (N := 50) lkp_RX0 rfl (by decide +kernel)
theorem oyX0_weighedOwed : OkY mX0_weighedOwed 1 := ⟨gw_in (List.mem_of_getElem? (i := 671) (by decide +kernel)) rfl, gw_in (List.mem_of_getElem? (i := 45) (by decide +kernel)) rfl, by decide +kernel, by decide⟩
theorem iyX0_weighedOwed : Cond.instanceMethod yX0_weighedOwed ∈ gw := gw_in (List.mem_of_getElem? (i := 669) (by decide +kernel)) rfl
theorem seX0_weighedOwed : Cond.selects RX0 yX0_weighedOwed yX0_weighedOwed ∈ gw := gw_in (List.mem_of_getElem? (i := 670) (by decide +kernel)) rfl
theorem okX5_town : OkM mX5_town := OkM.of (lks := lks_RX5) (N := 50) lkp_RX5 rfl (by decide +kernel)
theorem oyX5_town : OkY mX5_town 0 := ⟨gw_in (List.mem_of_getElem? (i := 302) (by decide +kernel)) rfl, gw_in (List.mem_of_getElem? (i := 41) (by decide +kernel)) rfl, by decide +kernel, by decide⟩
theorem iyX5_town : Cond.instanceMethod yX5_town ∈ gw := gw_in (List.mem_of_getElem? (i := 300) (by decide +kernel)) rfl
theorem seX5_town : Cond.selects RX5 yX5_town yX5_town ∈ gw := gw_in (List.mem_of_getElem? (i := 301) (by decide +kernel)) rfl
theorem okX0_commonDivisor : OkM mX0_commonDivisor := OkM.of (lks := lks_RX0) (N := 47) lkp_RX0 rfl (by decide +kernel)
theorem oyX0_commonDivisor : OkY mX0_commonDivisor 2 := ⟨gw_in (List.mem_of_getElem? (i := 637) (by decide +kernel)) rfl, gw_in (List.mem_of_getElem? (i := 45) (by decide +kernel)) rfl, by decide +kernel, by decide⟩
theorem syX0_commonDivisor : Cond.static yX0_commonDivisor ∈ gw := gw_in (List.mem_of_getElem? (i := 636) (by decide +kernel)) rfl
theorem okX4_owedBy : OkM mX4_owedBy := OkM.of (lks := lks_RX4) (N := 46) lkp_RX4 rfl (by decide +kernel)
theorem oyX4_owedBy : OkY mX4_owedBy 2 := ⟨gw_in (List.mem_of_getElem? (i := 560) (by decide +kernel)) rfl, gw_in (List.mem_of_getElem? (i := 42) (by decide +kernel)) rfl, by decide +kernel, by decide⟩
theorem iyX4_owedBy : Cond.instanceMethod yX4_owedBy ∈ gw := gw_in (List.mem_of_getElem? (i := 558) (by decide +kernel)) rfl
theorem seX4_owedBy : Cond.selects RX4 yX4_owedBy yX4_owedBy ∈ gw := gw_in (List.mem_of_getElem? (i := 559) (by decide +kernel)) rfl
theorem okX0_weightOfAnyKept : OkM mX0_weightOfAnyKept := OkM.of (lks := lks_RX0) (N := 45) lkp_RX0 rfl (by decide +kernel)
theorem oyX0_weightOfAnyKept : OkY mX0_weightOfAnyKept 1 := ⟨gw_in (List.mem_of_getElem? (i := 645) (by decide +kernel)) rfl, gw_in (List.mem_of_getElem? (i := 45) (by decide +kernel)) rfl, by decide +kernel, by decide⟩
theorem iyX0_weightOfAnyKept : Cond.instanceMethod yX0_weightOfAnyKept ∈ gw := gw_in (List.mem_of_getElem? (i := 643) (by decide +kernel)) rfl
theorem seX0_weightOfAnyKept : Cond.selects RX0 yX0_weightOfAnyKept yX0_weightOfAnyKept ∈ gw := gw_in (List.mem_of_getElem? (i := 644) (by decide +kernel)) rfl
theorem okX5_most : OkM mX5_most := OkM.of (lks := lks_RX5) (N := 44) lkp_RX5 rfl (by decide +kernel)
theorem oyX5_most : OkY mX5_most 3 := ⟨gw_in (List.mem_of_getElem? (i := 755) (by decide +kernel)) rfl, gw_in (List.mem_of_getElem? (i := 41) (by decide +kernel)) rfl, by decide +kernel, by decide⟩
theorem iyX5_most : Cond.instanceMethod yX5_most ∈ gw := gw_in (List.mem_of_getElem? (i := 753) (by decide +kernel)) rfl
theorem seX5_most : Cond.selects RX5 yX5_most yX5_most ∈ gw := gw_in (List.mem_of_getElem? (i := 754) (by decide +kernel)) rfl
theorem okX0_fillGainsOfWorth : OkM mX0_fillGainsOfWorth := OkM.of (lks := lks_RX0) (N := 38) lkp_RX0 rfl (by decide +kernel)
theorem oyX0_fillGainsOfWorth : OkY mX0_fillGainsOfWorth 0 := ⟨gw_in (List.mem_of_getElem? (i := 779) (by decide +kernel)) rfl, gw_in (List.mem_of_getElem? (i := 45) (by decide +kernel)) rfl, by decide +kernel, by decide⟩
theorem iyX0_fillGainsOfWorth : Cond.instanceMethod yX0_fillGainsOfWorth ∈ gw := gw_in (List.mem_of_getElem? (i := 777) (by decide +kernel)) rfl
theorem seX0_fillGainsOfWorth : Cond.selects RX0 yX0_fillGainsOfWorth yX0_fillGainsOfWorth ∈ gw := gw_in (List.mem_of_getElem? (i := 778) (by decide +kernel)) rfl
theorem okX4_worthMetBy : OkM mX4_worthMetBy := OkM.of (lks := lks_RX4) (N := 38) lkp_RX4 rfl (by decide +kernel)
theorem oyX4_worthMetBy : OkY mX4_worthMetBy 1 := ⟨gw_in (List.mem_of_getElem? (i := 684) (by decide +kernel)) rfl, gw_in (List.mem_of_getElem? (i := 42) (by decide +kernel)) rfl, by decide +kernel, by decide⟩
theorem iyX4_worthMetBy : Cond.instanceMethod yX4_worthMetBy ∈ gw := gw_in (List.mem_of_getElem? (i := 682) (by decide +kernel)) rfl
theorem seX4_worthMetBy : Cond.selects RX4 yX4_worthMetBy yX4_worthMetBy ∈ gw := gw_in (List.mem_of_getElem? (i := 683) (by decide +kernel)) rfl
theorem okX6_worth : OkM mX6_worth := OkM.of (lks := lks_RX6) (N := 36) lkp_RX6 rfl (by decide +kernel)
theorem oyX6_worth : OkY mX6_worth 2 := ⟨gw_in (List.mem_of_getElem? (i := 1233) (by decide +kernel)) rfl, gw_in (List.mem_of_getElem? (i := 47) (by decide +kernel)) rfl, by decide +kernel, by decide⟩
theorem iyX6_worth : Cond.instanceMethod yX6_worth ∈ gw := gw_in (List.mem_of_getElem? (i := 1231) (by decide +kernel)) rfl
theorem seX6_worth : Cond.selects RX6 yX6_worth yX6_worth ∈ gw := gw_in (List.mem_of_getElem? (i := 1232) (by decide +kernel)) rfl
theorem okX5_fitsNeed : OkM mX5_fitsNeed := OkM.of (lks := lks_RX5) (N := 32) lkp_RX5 rfl (by decide +kernel)
theorem oyX5_fitsNeed : OkY mX5_fitsNeed 2 := ⟨gw_in (List.mem_of_getElem? (i := 502) (by decide +kernel)) rfl, gw_in (List.mem_of_getElem? (i := 41) (by decide +kernel)) rfl, by decide +kernel, by decide⟩
theorem syX5_fitsNeed : Cond.static yX5_fitsNeed ∈ gw := gw_in (List.mem_of_getElem? (i := 501) (by decide +kernel)) rfl
theorem okX6_undo : OkM mX6_undo := OkM.of (lks := lks_RX6) (N := 31) lkp_RX6 rfl (by decide +kernel)
theorem oyX6_undo : OkY mX6_undo 0 := ⟨gw_in (List.mem_of_getElem? (i := 1349) (by decide +kernel)) rfl, gw_in (List.mem_of_getElem? (i := 47) (by decide +kernel)) rfl, by decide +kernel, by decide⟩
theorem iyX6_undo : Cond.instanceMethod yX6_undo ∈ gw := gw_in (List.mem_of_getElem? (i := 1347) (by decide +kernel)) rfl
theorem seX6_undo : Cond.selects RX6 yX6_undo yX6_undo ∈ gw := gw_in (List.mem_of_getElem? (i := 1348) (by decide +kernel)) rfl
theorem okX6_kept : OkM mX6_kept := OkM.of (lks := lks_RX6) (N := 29) lkp_RX6 rfl (by decide +kernel)
theorem oyX6_kept : OkY mX6_kept 0 := ⟨gw_in (List.mem_of_getElem? (i := 1135) (by decide +kernel)) rfl, gw_in (List.mem_of_getElem? (i := 47) (by decide +kernel)) rfl, by decide +kernel, by decide⟩
theorem iyX6_kept : Cond.instanceMethod yX6_kept ∈ gw := gw_in (List.mem_of_getElem? (i := 1133) (by decide +kernel)) rfl
theorem seX6_kept : Cond.selects RX6 yX6_kept yX6_kept ∈ gw := gw_in (List.mem_of_getElem? (i := 1134) (by decide +kernel)) rfl
theorem okX5_isRatio : OkM mX5_isRatio := OkM.of (lks := lks_RX5) (N := 26) lkp_RX5 rfl (by decide +kernel)
theorem oyX5_isRatio : OkY mX5_isRatio 2 := ⟨gw_in (List.mem_of_getElem? (i := 713) (by decide +kernel)) rfl, gw_in (List.mem_of_getElem? (i := 41) (by decide +kernel)) rfl, by decide +kernel, by decide⟩
theorem syX5_isRatio : Cond.static yX5_isRatio ∈ gw := gw_in (List.mem_of_getElem? (i := 712) (by decide +kernel)) rfl
theorem okX6_isMet : OkM mX6_isMet := OkM.of (lks := lks_RX6) (N := 26) lkp_RX6 rfl (by decide +kernel)
theorem oyX6_isMet : OkY mX6_isMet 2 := ⟨gw_in (List.mem_of_getElem? (i := 1178) (by decide +kernel)) rfl, gw_in (List.mem_of_getElem? (i := 47) (by decide +kernel)) rfl, by decide +kernel, by decide⟩
theorem iyX6_isMet : Cond.instanceMethod yX6_isMet ∈ gw := gw_in (List.mem_of_getElem? (i := 1177) (by decide +kernel)) rfl
theorem seX6_isMet : Cond.selects RX6 yX6_isMet yX6_isMet ∈ gw := gw_in (List.mem_of_getElem? (i := 28) (by decide +kernel)) rfl
theorem okX0_clearGains : OkM mX0_clearGains := OkM.of (lks := lks_RX0) (N := 24) lkp_RX0 rfl (by decide +kernel)
theorem oyX0_clearGains : OkY mX0_clearGains 0 := ⟨gw_in (List.mem_of_getElem? (i := 725) (by decide +kernel)) rfl, gw_in (List.mem_of_getElem? (i := 45) (by decide +kernel)) rfl, by decide +kernel, by decide⟩
theorem iyX0_clearGains : Cond.instanceMethod yX0_clearGains ∈ gw := gw_in (List.mem_of_getElem? (i := 723) (by decide +kernel)) rfl
theorem seX0_clearGains : Cond.selects RX0 yX0_clearGains yX0_clearGains ∈ gw := gw_in (List.mem_of_getElem? (i := 724) (by decide +kernel)) rfl
theorem okX5_isSet : OkM mX5_isSet := OkM.of (lks := lks_RX5) (N := 23) lkp_RX5 rfl (by decide +kernel)
theorem oyX5_isSet : OkY mX5_isSet 1 := ⟨gw_in (List.mem_of_getElem? (i := 556) (by decide +kernel)) rfl, gw_in (List.mem_of_getElem? (i := 41) (by decide +kernel)) rfl, by decide +kernel, by decide⟩
theorem iyX5_isSet : Cond.instanceMethod yX5_isSet ∈ gw := gw_in (List.mem_of_getElem? (i := 555) (by decide +kernel)) rfl
theorem seX5_isSet : Cond.selects RX5 yX5_isSet yX5_isSet ∈ gw := gw_in (List.mem_of_getElem? (i := 3) (by decide +kernel)) rfl
theorem okX6_carry : OkM mX6_carry := OkM.of (lks := lks_RX6) (N := 21) lkp_RX6 rfl (by decide +kernel)
theorem oyX6_carry : OkY mX6_carry 2 := ⟨gw_in (List.mem_of_getElem? (i := 1001) (by decide +kernel)) rfl, gw_in (List.mem_of_getElem? (i := 47) (by decide +kernel)) rfl, by decide +kernel, by decide⟩
theorem syX6_carry : Cond.static yX6_carry ∈ gw := gw_in (List.mem_of_getElem? (i := 1000) (by decide +kernel)) rfl
theorem okX6_byteAt : OkM mX6_byteAt := OkM.of (lks := lks_RX6) (N := 19) lkp_RX6 rfl (by decide +kernel)
theorem oyX6_byteAt : OkY mX6_byteAt 1 := ⟨gw_in (List.mem_of_getElem? (i := 1013) (by decide +kernel)) rfl, gw_in (List.mem_of_getElem? (i := 47) (by decide +kernel)) rfl, by decide +kernel, by decide⟩
theorem iyX6_byteAt : Cond.instanceMethod yX6_byteAt ∈ gw := gw_in (List.mem_of_getElem? (i := 1012) (by decide +kernel)) rfl
theorem seX6_byteAt : Cond.selects RX6 yX6_byteAt yX6_byteAt ∈ gw := gw_in (List.mem_of_getElem? (i := 7) (by decide +kernel)) rfl
theorem okX5_seed : OkM mX5_seed := OkM.of (lks := lks_RX5) (N := 18) lkp_RX5 rfl (by decide +kernel)
theorem oyX5_seed : OkY mX5_seed 1 := ⟨gw_in (List.mem_of_getElem? (i := 816) (by decide +kernel)) rfl, gw_in (List.mem_of_getElem? (i := 41) (by decide +kernel)) rfl, by decide +kernel, by decide⟩
theorem iyX5_seed : Cond.instanceMethod yX5_seed ∈ gw := gw_in (List.mem_of_getElem? (i := 814) (by decide +kernel)) rfl
theorem seX5_seed : Cond.selects RX5 yX5_seed yX5_seed ∈ gw := gw_in (List.mem_of_getElem? (i := 815) (by decide +kernel)) rfl
theorem okX0_sets : OkM mX0_sets := OkM.of (lks := lks_RX0) (N := 16) lkp_RX0 rfl (by decide +kernel)
theorem oyX0_sets : OkY mX0_sets 0 := ⟨gw_in (List.mem_of_getElem? (i := 621) (by decide +kernel)) rfl, gw_in (List.mem_of_getElem? (i := 45) (by decide +kernel)) rfl, by decide +kernel, by decide⟩
theorem iyX0_sets : Cond.instanceMethod yX0_sets ∈ gw := gw_in (List.mem_of_getElem? (i := 619) (by decide +kernel)) rfl
theorem seX0_sets : Cond.selects RX0 yX0_sets yX0_sets ∈ gw := gw_in (List.mem_of_getElem? (i := 620) (by decide +kernel)) rfl
theorem okX6_takes : OkM mX6_takes := OkM.of (lks := lks_RX6) (N := 16) lkp_RX6 rfl (by decide +kernel)
theorem oyX6_takes : OkY mX6_takes 1 := ⟨gw_in (List.mem_of_getElem? (i := 1022) (by decide +kernel)) rfl, gw_in (List.mem_of_getElem? (i := 47) (by decide +kernel)) rfl, by decide +kernel, by decide⟩
theorem iyX6_takes : Cond.instanceMethod yX6_takes ∈ gw := gw_in (List.mem_of_getElem? (i := 1021) (by decide +kernel)) rfl
theorem seX6_takes : Cond.selects RX6 yX6_takes yX6_takes ∈ gw := gw_in (List.mem_of_getElem? (i := 9) (by decide +kernel)) rfl
theorem okX6_heads : OkM mX6_heads := OkM.of (lks := lks_RX6) (N := 15) lkp_RX6 rfl (by decide +kernel)
theorem oyX6_heads : OkY mX6_heads 2 := ⟨gw_in (List.mem_of_getElem? (i := 1142) (by decide +kernel)) rfl, gw_in (List.mem_of_getElem? (i := 47) (by decide +kernel)) rfl, by decide +kernel, by decide⟩
theorem syX6_heads : Cond.static yX6_heads ∈ gw := gw_in (List.mem_of_getElem? (i := 1141) (by decide +kernel)) rfl
theorem okX6_needIts : OkM mX6_needIts := OkM.of (lks := lks_RX6) (N := 14) lkp_RX6 rfl (by decide +kernel)
theorem oyX6_needIts : OkY mX6_needIts 2 := ⟨gw_in (List.mem_of_getElem? (i := 1111) (by decide +kernel)) rfl, gw_in (List.mem_of_getElem? (i := 47) (by decide +kernel)) rfl, by decide +kernel, by decide⟩
theorem iyX6_needIts : Cond.instanceMethod yX6_needIts ∈ gw := gw_in (List.mem_of_getElem? (i := 1110) (by decide +kernel)) rfl
theorem seX6_needIts : Cond.selects RX6 yX6_needIts yX6_needIts ∈ gw := gw_in (List.mem_of_getElem? (i := 19) (by decide +kernel)) rfl
theorem okX1_faultHere : OkM mX1_faultHere := OkM.of (lks := lks_RX1) (N := 10) lkp_RX1 rfl (by decide +kernel)
theorem oyX1_faultHere : OkY mX1_faultHere 0 := ⟨gw_in (List.mem_of_getElem? (i := 398) (by decide +kernel)) rfl, gw_in (List.mem_of_getElem? (i := 44) (by decide +kernel)) rfl, by decide +kernel, by decide⟩
theorem iyX1_faultHere : Cond.instanceMethod yX1_faultHere ∈ gw := gw_in (List.mem_of_getElem? (i := 396) (by decide +kernel)) rfl
theorem seX1_faultHere : Cond.selects RX1 yX1_faultHere yX1_faultHere ∈ gw := gw_in (List.mem_of_getElem? (i := 397) (by decide +kernel)) rfl
theorem okX5_isThrow : OkM mX5_isThrow := OkM.of (lks := lks_RX5) (N := 9) lkp_RX5 rfl (by decide +kernel)
theorem oyX5_isThrow : OkY mX5_isThrow 1 := ⟨gw_in (List.mem_of_getElem? (i := 533) (by decide +kernel)) rfl, gw_in (List.mem_of_getElem? (i := 41) (by decide +kernel)) rfl, by decide +kernel, by decide⟩
theorem syX5_isThrow : Cond.static yX5_isThrow ∈ gw := gw_in (List.mem_of_getElem? (i := 532) (by decide +kernel)) rfl
theorem okX6_isCoin : OkM mX6_isCoin := OkM.of (lks := lks_RX6) (N := 8) lkp_RX6 rfl (by decide +kernel)
theorem oyX6_isCoin : OkY mX6_isCoin 1 := ⟨gw_in (List.mem_of_getElem? (i := 1068) (by decide +kernel)) rfl, gw_in (List.mem_of_getElem? (i := 47) (by decide +kernel)) rfl, by decide +kernel, by decide⟩
theorem syX6_isCoin : Cond.static yX6_isCoin ∈ gw := gw_in (List.mem_of_getElem? (i := 1067) (by decide +kernel)) rfl
