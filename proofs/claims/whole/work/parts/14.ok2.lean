/-! ===== the methods: their tables are right, their words; printed by wip/whole/mk12.py ===== -/
theorem okX6_keptIn : OkM mX6_keptIn := OkM.of (lks := lks_RX6) (N := 206) lkp_RX6 rfl (by decide +kernel)
theorem oyX6_keptIn : OkY mX6_keptIn 1 := ⟨gw_in (List.mem_of_getElem? (i := 1139) (by decide +kernel)) rfl, gw_in (List.mem_of_getElem? (i := 47) (by decide +kernel)) rfl, by decide +kernel, by decide⟩
theorem iyX6_keptIn : Cond.instanceMethod yX6_keptIn ∈ gw := gw_in (List.mem_of_getElem? (i := 1138) (by decide +kernel)) rfl
theorem seX6_keptIn : Cond.selects RX6 yX6_keptIn yX6_keptIn ∈ gw := gw_in (List.mem_of_getElem? (i := 22) (by decide +kernel)) rfl
theorem okX6_init0 : OkM (mX6_init 0) := OkM.of (lks := lks_RX6) (N := 173) lkp_RX6 rfl (by decide +kernel)
theorem oyX6_init0 : OkY (mX6_init 0) 0 := ⟨gw_in (List.mem_of_getElem? (i := 913) (by decide +kernel)) rfl, gw_in (List.mem_of_getElem? (i := 47) (by decide +kernel)) rfl, by decide +kernel, by decide⟩
theorem okX6_init (nz : Nat) : OkM (mX6_init nz) := okX6_init0
theorem oyX6_init (nz : Nat) : OkY (mX6_init nz) 0 := oyX6_init0
theorem iyX6_init : Cond.instanceMethod yX6_init ∈ gw := gw_in (List.mem_of_getElem? (i := 912) (by decide +kernel)) rfl
theorem okX4_isKept : OkM mX4_isKept := OkM.of (lks := lks_RX4) (N := 149) lkp_RX4 rfl (by decide +kernel)
theorem oyX4_isKept : OkY mX4_isKept 3 := ⟨gw_in (List.mem_of_getElem? (i := 545) (by decide +kernel)) rfl, gw_in (List.mem_of_getElem? (i := 42) (by decide +kernel)) rfl, by decide +kernel, by decide⟩
theorem iyX4_isKept : Cond.instanceMethod yX4_isKept ∈ gw := gw_in (List.mem_of_getElem? (i := 543) (by decide +kernel)) rfl
theorem seX4_isKept : Cond.selects RX4 yX4_isKept yX4_isKept ∈ gw := gw_in (List.mem_of_getElem? (i := 544) (by decide +kernel)) rfl
theorem okX0_fillWeights : OkM mX0_fillWeights := OkM.of (lks := lks_RX0) (N := 125) lkp_RX0 rfl (by decide +kernel)
theorem oyX0_fillWeights : OkY mX0_fillWeights 1 := ⟨gw_in (List.mem_of_getElem? (i := 608) (by decide +kernel)) rfl, gw_in (List.mem_of_getElem? (i := 45) (by decide +kernel)) rfl, by decide +kernel, by decide⟩
theorem iyX0_fillWeights : Cond.instanceMethod yX0_fillWeights ∈ gw := gw_in (List.mem_of_getElem? (i := 606) (by decide +kernel)) rfl
theorem seX0_fillWeights : Cond.selects RX0 yX0_fillWeights yX0_fillWeights ∈ gw := gw_in (List.mem_of_getElem? (i := 607) (by decide +kernel)) rfl
theorem okX0_addGains : OkM mX0_addGains := OkM.of (lks := lks_RX0) (N := 116) lkp_RX0 rfl (by decide +kernel)
theorem oyX0_addGains : OkY mX0_addGains 2 := ⟨gw_in (List.mem_of_getElem? (i := 729) (by decide +kernel)) rfl, gw_in (List.mem_of_getElem? (i := 45) (by decide +kernel)) rfl, by decide +kernel, by decide⟩
theorem iyX0_addGains : Cond.instanceMethod yX0_addGains ∈ gw := gw_in (List.mem_of_getElem? (i := 727) (by decide +kernel)) rfl
theorem seX0_addGains : Cond.selects RX0 yX0_addGains yX0_addGains ∈ gw := gw_in (List.mem_of_getElem? (i := 728) (by decide +kernel)) rfl
theorem okX5_load : OkM mX5_load := OkM.of (lks := lks_RX5) (N := 114) lkp_RX5 rfl (by decide +kernel)
theorem oyX5_load : OkY mX5_load 1 := ⟨gw_in (List.mem_of_getElem? (i := 874) (by decide +kernel)) rfl, gw_in (List.mem_of_getElem? (i := 41) (by decide +kernel)) rfl, by decide +kernel, by decide⟩
theorem iyX5_load : Cond.instanceMethod yX5_load ∈ gw := gw_in (List.mem_of_getElem? (i := 872) (by decide +kernel)) rfl
theorem seX5_load : Cond.selects RX5 yX5_load yX5_load ∈ gw := gw_in (List.mem_of_getElem? (i := 873) (by decide +kernel)) rfl
theorem okX5_count : OkM mX5_count := OkM.of (lks := lks_RX5) (N := 107) lkp_RX5 rfl (by decide +kernel)
theorem oyX5_count : OkY mX5_count 1 := ⟨gw_in (List.mem_of_getElem? (i := 900) (by decide +kernel)) rfl, gw_in (List.mem_of_getElem? (i := 41) (by decide +kernel)) rfl, by decide +kernel, by decide⟩
theorem iyX5_count : Cond.instanceMethod yX5_count ∈ gw := gw_in (List.mem_of_getElem? (i := 898) (by decide +kernel)) rfl
theorem seX5_count : Cond.selects RX5 yX5_count yX5_count ∈ gw := gw_in (List.mem_of_getElem? (i := 899) (by decide +kernel)) rfl
theorem okX0_init0 : OkM (mX0_init 0) := OkM.of (lks := lks_RX0) (N := 95) lkp_RX0 rfl (by decide +kernel)
theorem oyX0_init0 : OkY (mX0_init 0) 1 := ⟨gw_in (List.mem_of_getElem? (i := 196) (by decide +kernel)) rfl, gw_in (List.mem_of_getElem? (i := 45) (by decide +kernel)) rfl, by decide +kernel, by decide⟩
theorem okX0_init (nz : Nat) : OkM (mX0_init nz) := okX0_init0
theorem oyX0_init (nz : Nat) : OkY (mX0_init nz) 1 := oyX0_init0
theorem iyX0_init : Cond.instanceMethod yX0_init ∈ gw := gw_in (List.mem_of_getElem? (i := 195) (by decide +kernel)) rfl
theorem okX5_sheet : OkM mX5_sheet := OkM.of (lks := lks_RX5) (N := 90) lkp_RX5 rfl (by decide +kernel)
theorem oyX5_sheet : OkY mX5_sheet 3 := ⟨gw_in (List.mem_of_getElem? (i := 838) (by decide +kernel)) rfl, gw_in (List.mem_of_getElem? (i := 41) (by decide +kernel)) rfl, by decide +kernel, by decide⟩
theorem iyX5_sheet : Cond.instanceMethod yX5_sheet ∈ gw := gw_in (List.mem_of_getElem? (i := 836) (by decide +kernel)) rfl
theorem seX5_sheet : Cond.selects RX5 yX5_sheet yX5_sheet ∈ gw := gw_in (List.mem_of_getElem? (i := 837) (by decide +kernel)) rfl
theorem okX2_firstWrong : OkM mX2_firstWrong := OkM.of (lks := lks_RX2) (N := 89) lkp_RX2 rfl (by decide +kernel)
theorem oyX2_firstWrong : OkY mX2_firstWrong 1 := ⟨gw_in (List.mem_of_getElem? (i := 882) (by decide +kernel)) rfl, gw_in (List.mem_of_getElem? (i := 46) (by decide +kernel)) rfl, by decide +kernel, by decide⟩
theorem iyX2_firstWrong : Cond.instanceMethod yX2_firstWrong ∈ gw := gw_in (List.mem_of_getElem? (i := 880) (by decide +kernel)) rfl
theorem seX2_firstWrong : Cond.selects RX2 yX2_firstWrong yX2_firstWrong ∈ gw := gw_in (List.mem_of_getElem? (i := 881) (by decide +kernel)) rfl
theorem okX6_tries : OkM mX6_tries := OkM.of (lks := lks_RX6) (N := 81) lkp_RX6 rfl (by decide +kernel)
theorem oyX6_tries : OkY mX6_tries 3 := ⟨gw_in (List.mem_of_getElem? (i := 1299) (by decide +kernel)) rfl, gw_in (List.mem_of_getElem? (i := 47) (by decide +kernel)) rfl, by decide +kernel, by decide⟩
theorem iyX6_tries : Cond.instanceMethod yX6_tries ∈ gw := gw_in (List.mem_of_getElem? (i := 1297) (by decide +kernel)) rfl
theorem seX6_tries : Cond.selects RX6 yX6_tries yX6_tries ∈ gw := gw_in (List.mem_of_getElem? (i := 1298) (by decide +kernel)) rfl
theorem okX5_coin : OkM mX5_coin := OkM.of (lks := lks_RX5) (N := 80) lkp_RX5 rfl (by decide +kernel)
theorem oyX5_coin : OkY mX5_coin 3 := ⟨gw_in (List.mem_of_getElem? (i := 450) (by decide +kernel)) rfl, gw_in (List.mem_of_getElem? (i := 41) (by decide +kernel)) rfl, by decide +kernel, by decide⟩
theorem iyX5_coin : Cond.instanceMethod yX5_coin ∈ gw := gw_in (List.mem_of_getElem? (i := 448) (by decide +kernel)) rfl
theorem seX5_coin : Cond.selects RX5 yX5_coin yX5_coin ∈ gw := gw_in (List.mem_of_getElem? (i := 449) (by decide +kernel)) rfl
theorem okX6_best : OkM mX6_best := OkM.of (lks := lks_RX6) (N := 78) lkp_RX6 rfl (by decide +kernel)
theorem oyX6_best : OkY mX6_best 0 := ⟨gw_in (List.mem_of_getElem? (i := 1275) (by decide +kernel)) rfl, gw_in (List.mem_of_getElem? (i := 47) (by decide +kernel)) rfl, by decide +kernel, by decide⟩
theorem iyX6_best : Cond.instanceMethod yX6_best ∈ gw := gw_in (List.mem_of_getElem? (i := 1273) (by decide +kernel)) rfl
theorem seX6_best : Cond.selects RX6 yX6_best yX6_best ∈ gw := gw_in (List.mem_of_getElem? (i := 1274) (by decide +kernel)) rfl
theorem okX0_mostWithin : OkM mX0_mostWithin := OkM.of (lks := lks_RX0) (N := 74) lkp_RX0 rfl (by decide +kernel)
theorem oyX0_mostWithin : OkY mX0_mostWithin 3 := ⟨gw_in (List.mem_of_getElem? (i := 759) (by decide +kernel)) rfl, gw_in (List.mem_of_getElem? (i := 45) (by decide +kernel)) rfl, by decide +kernel, by decide⟩
theorem iyX0_mostWithin : Cond.instanceMethod yX0_mostWithin ∈ gw := gw_in (List.mem_of_getElem? (i := 757) (by decide +kernel)) rfl
theorem seX0_mostWithin : Cond.selects RX0 yX0_mostWithin yX0_mostWithin ∈ gw := gw_in (List.mem_of_getElem? (i := 758) (by decide +kernel)) rfl
theorem okX0_fillTogether : OkM mX0_fillTogether := OkM.of (lks := lks_RX0) (N := 72) lkp_RX0 rfl (by decide +kernel)
theorem oyX0_fillTogether : OkY mX0_fillTogether 0 := ⟨gw_in (List.mem_of_getElem? (i := 617) (by decide +kernel)) rfl, gw_in (List.mem_of_getElem? (i := 45) (by decide +kernel)) rfl, by decide +kernel, by decide⟩
theorem iyX0_fillTogether : Cond.instanceMethod yX0_fillTogether ∈ gw := gw_in (List.mem_of_getElem? (i := 615) (by decide +kernel)) rfl
theorem seX0_fillTogether : Cond.selects RX0 yX0_fillTogether yX0_fillTogether ∈ gw := gw_in (List.mem_of_getElem? (i := 616) (by decide +kernel)) rfl
theorem okX2_put : OkM mX2_put := OkM.of (lks := lks_RX2) (N := 63) lkp_RX2 rfl (by decide +kernel)
theorem oyX2_put : OkY mX2_put 2 := ⟨gw_in (List.mem_of_getElem? (i := 860) (by decide +kernel)) rfl, gw_in (List.mem_of_getElem? (i := 46) (by decide +kernel)) rfl, by decide +kernel, by decide⟩
theorem iyX2_put : Cond.instanceMethod yX2_put ∈ gw := gw_in (List.mem_of_getElem? (i := 858) (by decide +kernel)) rfl
theorem seX2_put : Cond.selects RX2 yX2_put yX2_put ∈ gw := gw_in (List.mem_of_getElem? (i := 859) (by decide +kernel)) rfl
theorem okX5_asks : OkM mX5_asks := OkM.of (lks := lks_RX5) (N := 61) lkp_RX5 rfl (by decide +kernel)
theorem oyX5_asks : OkY mX5_asks 1 := ⟨gw_in (List.mem_of_getElem? (i := 801) (by decide +kernel)) rfl, gw_in (List.mem_of_getElem? (i := 41) (by decide +kernel)) rfl, by decide +kernel, by decide⟩
theorem iyX5_asks : Cond.instanceMethod yX5_asks ∈ gw := gw_in (List.mem_of_getElem? (i := 799) (by decide +kernel)) rfl
theorem seX5_asks : Cond.selects RX5 yX5_asks yX5_asks ∈ gw := gw_in (List.mem_of_getElem? (i := 800) (by decide +kernel)) rfl
theorem okX4_addNeed : OkM mX4_addNeed := OkM.of (lks := lks_RX4) (N := 58) lkp_RX4 rfl (by decide +kernel)
theorem oyX4_addNeed : OkY mX4_addNeed 3 := ⟨gw_in (List.mem_of_getElem? (i := 415) (by decide +kernel)) rfl, gw_in (List.mem_of_getElem? (i := 42) (by decide +kernel)) rfl, by decide +kernel, by decide⟩
theorem iyX4_addNeed : Cond.instanceMethod yX4_addNeed ∈ gw := gw_in (List.mem_of_getElem? (i := 413) (by decide +kernel)) rfl
theorem seX4_addNeed : Cond.selects RX4 yX4_addNeed yX4_addNeed ∈ gw := gw_in (List.mem_of_getElem? (i := 414) (by decide +kernel)) rfl
theorem okX5_harm : OkM mX5_harm := OkM.of (lks := lks_RX5) (N := 58) lkp_RX5 rfl (by decide +kernel)
theorem oyX5_harm : OkY mX5_harm 3 := ⟨gw_in (List.mem_of_getElem? (i := 688) (by decide +kernel)) rfl, gw_in (List.mem_of_getElem? (i := 41) (by decide +kernel)) rfl, by decide +kernel, by decide⟩
theorem iyX5_harm : Cond.instanceMethod yX5_harm ∈ gw := gw_in (List.mem_of_getElem? (i := 686) (by decide +kernel)) rfl
theorem seX5_harm : Cond.selects RX5 yX5_harm yX5_harm ∈ gw := gw_in (List.mem_of_getElem? (i := 687) (by decide +kernel)) rfl
theorem okX5_sure : OkM mX5_sure := OkM.of (lks := lks_RX5) (N := 55) lkp_RX5 rfl (by decide +kernel)
theorem oyX5_sure : OkY mX5_sure 3 := ⟨gw_in (List.mem_of_getElem? (i := 649) (by decide +kernel)) rfl, gw_in (List.mem_of_getElem? (i := 41) (by decide +kernel)) rfl, by decide +kernel, by decide⟩
theorem iyX5_sure : Cond.instanceMethod yX5_sure ∈ gw := gw_in (List.mem_of_getElem? (i := 647) (by decide +kernel)) rfl
theorem seX5_sure : Cond.selects RX5 yX5_sure yX5_sure ∈ gw := gw_in (List.mem_of_getElem? (i := 648) (by decide +kernel)) rfl
theorem okX3_append : OkM mX3_append := OkM.of (lks := lks_RX3) (N := 53) lkp_RX3 rfl (by decide +kernel)
theorem oyX3_append : OkY mX3_append 2 := ⟨gw_in (List.mem_of_getElem? (i := 294) (by decide +kernel)) rfl, gw_in (List.mem_of_getElem? (i := 43) (by decide +kernel)) rfl, by decide +kernel, by decide⟩
theorem iyX3_append : Cond.instanceMethod yX3_append ∈ gw := gw_in (List.mem_of_getElem? (i := 292) (by decide +kernel)) rfl
theorem seX3_append : Cond.selects RX3 yX3_append yX3_append ∈ gw := gw_in (List.mem_of_getElem? (i := 293) (by decide +kernel)) rfl
theorem okX0_weightOfMore : OkM mX0_weightOfMore := OkM.of (lks := lks_RX0) (N := 52) lkp_RX0 rfl (by decide +kernel)
theorem oyX0_weightOfMore : OkY mX0_weightOfMore 2 := ⟨gw_in (List.mem_of_getElem? (i := 692) (by decide +kernel)) rfl, gw_in (List.mem_of_getElem? (i := 45) (by decide +kernel)) rfl, by decide +kernel, by decide⟩
theorem iyX0_weightOfMore : Cond.instanceMethod yX0_weightOfMore ∈ gw := gw_in (List.mem_of_getElem? (i := 690) (by decide +kernel)) rfl
theorem seX0_weightOfMore : Cond.selects RX0 yX0_weightOfMore yX0_weightOfMore ∈ gw := gw_in (List.mem_of_getElem? (i := 691) (by decide +kernel)) rfl
theorem okX0_weighedWorth : OkM mX0_weighedWorth := OkM.of (lks := lks_RX0) (N := 51) lkp_RX0 rfl (by decide +kernel)
theorem oyX0_weighedWorth : OkY mX0_weighedWorth 1 := ⟨gw_in (List.mem_of_getElem? (i := 680) (by decide +kernel)) rfl, gw_in (List.mem_of_getElem? (i := 45) (by decide +kernel)) rfl, by decide +kernel, by decide⟩
theorem iyX0_weighedWorth : Cond.instanceMethod yX0_weighedWorth ∈ gw := gw_in (List.mem_of_getElem? (i := 678) (by decide +kernel)) rfl
theorem seX0_weighedWorth : Cond.selects RX0 yX0_weighedWorth yX0_weighedWorth ∈ gw := gw_in (List.mem_of_getElem? (i := 679) (by decide +kernel)) rfl
theorem okX6_met : OkM mX6_met := OkM.of (lks := lks_RX6) (N := 49) lkp_RX6 rfl (by decide +kernel)
theorem oyX6_met : OkY mX6_met 1 := ⟨gw_in (List.mem_of_getElem? (i := 1170) (by decide +kernel)) rfl, gw_in (List.mem_of_getElem? (i := 47) (by decide +kernel)) rfl, by decide +kernel, by decide⟩
theorem iyX6_met : Cond.instanceMethod yX6_met ∈ gw := gw_in (List.mem_of_getElem? (i := 1168) (by decide +kernel)) rfl
theorem seX6_met : Cond.selects RX6 yX6_met yX6_met ∈ gw := gw_in (List.mem_of_getElem? (i := 1169) (by decide +kernel)) rfl
theorem okX6_harm : OkM mX6_harm := OkM.of (lks := lks_RX6) (N := 48) lkp_RX6 rfl (by decide +kernel)
theorem oyX6_harm : OkY mX6_harm 3 := ⟨gw_in (List.mem_of_getElem? (i := 1241) (by decide +kernel)) rfl, gw_in (List.mem_of_getElem? (i := 47) (by decide +kernel)) rfl, by decide +kernel, by decide⟩
theorem iyX6_harm : Cond.instanceMethod yX6_harm ∈ gw := gw_in (List.mem_of_getElem? (i := 1239) (by decide +kernel)) rfl
theorem seX6_harm : Cond.selects RX6 yX6_harm yX6_harm ∈ gw := gw_in (List.mem_of_getElem? (i := 1240) (by decide +kernel)) rfl
theorem okX5_mean : OkM mX5_mean := OkM.of (lks := lks_RX5) (N := 46) lkp_RX5 rfl (by decide +kernel)
theorem oyX5_mean : OkY mX5_mean 2 := ⟨gw_in (List.mem_of_getElem? (i := 667) (by decide +kernel)) rfl, gw_in (List.mem_of_getElem? (i := 41) (by decide +kernel)) rfl, by decide +kernel, by decide⟩
theorem iyX5_mean : Cond.instanceMethod yX5_mean ∈ gw := gw_in (List.mem_of_getElem? (i := 665) (by decide +kernel)) rfl
theorem seX5_mean : Cond.selects RX5 yX5_mean yX5_mean ∈ gw := gw_in (List.mem_of_getElem? (i := 666) (by decide +kernel)) rfl
theorem okX6_sure : OkM mX6_sure := OkM.of (lks := lks_RX6) (N := 45) lkp_RX6 rfl (by decide +kernel)
theorem oyX6_sure : OkY mX6_sure 3 := ⟨gw_in (List.mem_of_getElem? (i := 1213) (by decide +kernel)) rfl, gw_in (List.mem_of_getElem? (i := 47) (by decide +kernel)) rfl, by decide +kernel, by decide⟩
theorem iyX6_sure : Cond.instanceMethod yX6_sure ∈ gw := gw_in (List.mem_of_getElem? (i := 1211) (by decide +kernel)) rfl
theorem seX6_sure : Cond.selects RX6 yX6_sure yX6_sure ∈ gw := gw_in (List.mem_of_getElem? (i := 1212) (by decide +kernel)) rfl
theorem okX2_begin : OkM mX2_begin := OkM.of (lks := lks_RX2) (N := 43) lkp_RX2 rfl (by decide +kernel)
theorem oyX2_begin : OkY mX2_begin 2 := ⟨gw_in (List.mem_of_getElem? (i := 846) (by decide +kernel)) rfl, gw_in (List.mem_of_getElem? (i := 46) (by decide +kernel)) rfl, by decide +kernel, by decide⟩
theorem iyX2_begin : Cond.instanceMethod yX2_begin ∈ gw := gw_in (List.mem_of_getElem? (i := 844) (by decide +kernel)) rfl
theorem seX2_begin : Cond.selects RX2 yX2_begin yX2_begin ∈ gw := gw_in (List.mem_of_getElem? (i := 845) (by decide +kernel)) rfl
theorem okX6_hangsBy : OkM mX6_hangsBy := OkM.of (lks := lks_RX6) (N := 39) lkp_RX6 rfl (by decide +kernel)
theorem oyX6_hangsBy : OkY mX6_hangsBy 1 := ⟨gw_in (List.mem_of_getElem? (i := 1287) (by decide +kernel)) rfl, gw_in (List.mem_of_getElem? (i := 47) (by decide +kernel)) rfl, by decide +kernel, by decide⟩
theorem iyX6_hangsBy : Cond.instanceMethod yX6_hangsBy ∈ gw := gw_in (List.mem_of_getElem? (i := 1286) (by decide +kernel)) rfl
theorem seX6_hangsBy : Cond.selects RX6 yX6_hangsBy yX6_hangsBy ∈ gw := gw_in (List.mem_of_getElem? (i := 38) (by decide +kernel)) rfl
theorem okX6_chance : OkM mX6_chance := OkM.of (lks := lks_RX6) (N := 38) lkp_RX6 rfl (by decide +kernel)
theorem oyX6_chance : OkY mX6_chance 2 := ⟨gw_in (List.mem_of_getElem? (i := 1190) (by decide +kernel)) rfl, gw_in (List.mem_of_getElem? (i := 47) (by decide +kernel)) rfl, by decide +kernel, by decide⟩
theorem iyX6_chance : Cond.instanceMethod yX6_chance ∈ gw := gw_in (List.mem_of_getElem? (i := 1188) (by decide +kernel)) rfl
theorem seX6_chance : Cond.selects RX6 yX6_chance yX6_chance ∈ gw := gw_in (List.mem_of_getElem? (i := 1189) (by decide +kernel)) rfl
theorem okX5_promiseOf : OkM mX5_promiseOf := OkM.of (lks := lks_RX5) (N := 34) lkp_RX5 rfl (by decide +kernel)
theorem oyX5_promiseOf : OkY mX5_promiseOf 2 := ⟨gw_in (List.mem_of_getElem? (i := 470) (by decide +kernel)) rfl, gw_in (List.mem_of_getElem? (i := 41) (by decide +kernel)) rfl, by decide +kernel, by decide⟩
theorem iyX5_promiseOf : Cond.instanceMethod yX5_promiseOf ∈ gw := gw_in (List.mem_of_getElem? (i := 468) (by decide +kernel)) rfl
theorem seX5_promiseOf : Cond.selects RX5 yX5_promiseOf yX5_promiseOf ∈ gw := gw_in (List.mem_of_getElem? (i := 469) (by decide +kernel)) rfl
theorem okX5_drop : OkM mX5_drop := OkM.of (lks := lks_RX5) (N := 32) lkp_RX5 rfl (by decide +kernel)
theorem oyX5_drop : OkY mX5_drop 0 := ⟨gw_in (List.mem_of_getElem? (i := 490) (by decide +kernel)) rfl, gw_in (List.mem_of_getElem? (i := 41) (by decide +kernel)) rfl, by decide +kernel, by decide⟩
theorem iyX5_drop : Cond.instanceMethod yX5_drop ∈ gw := gw_in (List.mem_of_getElem? (i := 488) (by decide +kernel)) rfl
theorem seX5_drop : Cond.selects RX5 yX5_drop yX5_drop ∈ gw := gw_in (List.mem_of_getElem? (i := 489) (by decide +kernel)) rfl
theorem okX6_needOf : OkM mX6_needOf := OkM.of (lks := lks_RX6) (N := 32) lkp_RX6 rfl (by decide +kernel)
theorem oyX6_needOf : OkY mX6_needOf 2 := ⟨gw_in (List.mem_of_getElem? (i := 1103) (by decide +kernel)) rfl, gw_in (List.mem_of_getElem? (i := 47) (by decide +kernel)) rfl, by decide +kernel, by decide⟩
theorem iyX6_needOf : Cond.instanceMethod yX6_needOf ∈ gw := gw_in (List.mem_of_getElem? (i := 1101) (by decide +kernel)) rfl
theorem seX6_needOf : Cond.selects RX6 yX6_needOf yX6_needOf ∈ gw := gw_in (List.mem_of_getElem? (i := 1102) (by decide +kernel)) rfl
theorem okX6_draw : OkM mX6_draw := OkM.of (lks := lks_RX6) (N := 29) lkp_RX6 rfl (by decide +kernel)
theorem oyX6_draw : OkY mX6_draw 0 := ⟨gw_in (List.mem_of_getElem? (i := 1123) (by decide +kernel)) rfl, gw_in (List.mem_of_getElem? (i := 47) (by decide +kernel)) rfl, by decide +kernel, by decide⟩
theorem iyX6_draw : Cond.instanceMethod yX6_draw ∈ gw := gw_in (List.mem_of_getElem? (i := 1122) (by decide +kernel)) rfl
theorem seX6_draw : Cond.selects RX6 yX6_draw yX6_draw ∈ gw := gw_in (List.mem_of_getElem? (i := 21) (by decide +kernel)) rfl
theorem okX4_wholeWeight : OkM mX4_wholeWeight := OkM.of (lks := lks_RX4) (N := 27) lkp_RX4 rfl (by decide +kernel)
theorem oyX4_wholeWeight : OkY mX4_wholeWeight 0 := ⟨gw_in (List.mem_of_getElem? (i := 634) (by decide +kernel)) rfl, gw_in (List.mem_of_getElem? (i := 42) (by decide +kernel)) rfl, by decide +kernel, by decide⟩
theorem iyX4_wholeWeight : Cond.instanceMethod yX4_wholeWeight ∈ gw := gw_in (List.mem_of_getElem? (i := 632) (by decide +kernel)) rfl
theorem seX4_wholeWeight : Cond.selects RX4 yX4_wholeWeight yX4_wholeWeight ∈ gw := gw_in (List.mem_of_getElem? (i := 633) (by decide +kernel)) rfl
theorem okX6_isChance : OkM mX6_isChance := OkM.of (lks := lks_RX6) (N := 26) lkp_RX6 rfl (by decide +kernel)
theorem oyX6_isChance : OkY mX6_isChance 2 := ⟨gw_in (List.mem_of_getElem? (i := 1259) (by decide +kernel)) rfl, gw_in (List.mem_of_getElem? (i := 47) (by decide +kernel)) rfl, by decide +kernel, by decide⟩
theorem syX6_isChance : Cond.static yX6_isChance ∈ gw := gw_in (List.mem_of_getElem? (i := 1258) (by decide +kernel)) rfl
theorem okX5_lay : OkM mX5_lay := OkM.of (lks := lks_RX5) (N := 24) lkp_RX5 rfl (by decide +kernel)
theorem oyX5_lay : OkY mX5_lay 1 := ⟨gw_in (List.mem_of_getElem? (i := 530) (by decide +kernel)) rfl, gw_in (List.mem_of_getElem? (i := 41) (by decide +kernel)) rfl, by decide +kernel, by decide⟩
theorem iyX5_lay : Cond.instanceMethod yX5_lay ∈ gw := gw_in (List.mem_of_getElem? (i := 528) (by decide +kernel)) rfl
theorem seX5_lay : Cond.selects RX5 yX5_lay yX5_lay ∈ gw := gw_in (List.mem_of_getElem? (i := 529) (by decide +kernel)) rfl
theorem okX5_cast : OkM mX5_cast := OkM.of (lks := lks_RX5) (N := 22) lkp_RX5 rfl (by decide +kernel)
theorem oyX5_cast : OkY mX5_cast 0 := ⟨gw_in (List.mem_of_getElem? (i := 517) (by decide +kernel)) rfl, gw_in (List.mem_of_getElem? (i := 41) (by decide +kernel)) rfl, by decide +kernel, by decide⟩
theorem iyX5_cast : Cond.instanceMethod yX5_cast ∈ gw := gw_in (List.mem_of_getElem? (i := 515) (by decide +kernel)) rfl
theorem seX5_cast : Cond.selects RX5 yX5_cast yX5_cast ∈ gw := gw_in (List.mem_of_getElem? (i := 516) (by decide +kernel)) rfl
theorem okX6_many : OkM mX6_many := OkM.of (lks := lks_RX6) (N := 22) lkp_RX6 rfl (by decide +kernel)
theorem oyX6_many : OkY mX6_many 1 := ⟨gw_in (List.mem_of_getElem? (i := 1252) (by decide +kernel)) rfl, gw_in (List.mem_of_getElem? (i := 47) (by decide +kernel)) rfl, by decide +kernel, by decide⟩
theorem syX6_many : Cond.static yX6_many ∈ gw := gw_in (List.mem_of_getElem? (i := 1251) (by decide +kernel)) rfl
theorem okX3_init0 : OkM (mX3_init 0) := OkM.of (lks := lks_RX3) (N := 18) lkp_RX3 rfl (by decide +kernel)
theorem oyX3_init0 : OkY (mX3_init 0) 0 := ⟨gw_in (List.mem_of_getElem? (i := 148) (by decide +kernel)) rfl, gw_in (List.mem_of_getElem? (i := 43) (by decide +kernel)) rfl, by decide +kernel, by decide⟩
theorem okX3_init (nz : Nat) : OkM (mX3_init nz) := okX3_init0
theorem oyX3_init (nz : Nat) : OkY (mX3_init nz) 0 := oyX3_init0
theorem iyX3_init : Cond.instanceMethod yX3_init ∈ gw := gw_in (List.mem_of_getElem? (i := 147) (by decide +kernel)) rfl
theorem okX5_wipe : OkM mX5_wipe := OkM.of (lks := lks_RX5) (N := 18) lkp_RX5 rfl (by decide +kernel)
theorem oyX5_wipe : OkY mX5_wipe 0 := ⟨gw_in (List.mem_of_getElem? (i := 298) (by decide +kernel)) rfl, gw_in (List.mem_of_getElem? (i := 41) (by decide +kernel)) rfl, by decide +kernel, by decide⟩
theorem iyX5_wipe : Cond.instanceMethod yX5_wipe ∈ gw := gw_in (List.mem_of_getElem? (i := 296) (by decide +kernel)) rfl
theorem seX5_wipe : Cond.selects RX5 yX5_wipe yX5_wipe ∈ gw := gw_in (List.mem_of_getElem? (i := 297) (by decide +kernel)) rfl
theorem okX6_cast : OkM mX6_cast := OkM.of (lks := lks_RX6) (N := 17) lkp_RX6 rfl (by decide +kernel)
theorem oyX6_cast : OkY mX6_cast 0 := ⟨gw_in (List.mem_of_getElem? (i := 1115) (by decide +kernel)) rfl, gw_in (List.mem_of_getElem? (i := 47) (by decide +kernel)) rfl, by decide +kernel, by decide⟩
theorem iyX6_cast : Cond.instanceMethod yX6_cast ∈ gw := gw_in (List.mem_of_getElem? (i := 1113) (by decide +kernel)) rfl
theorem seX6_cast : Cond.selects RX6 yX6_cast yX6_cast ∈ gw := gw_in (List.mem_of_getElem? (i := 1114) (by decide +kernel)) rfl
theorem okX6_seed : OkM mX6_seed := OkM.of (lks := lks_RX6) (N := 16) lkp_RX6 rfl (by decide +kernel)
theorem oyX6_seed : OkY mX6_seed 1 := ⟨gw_in (List.mem_of_getElem? (i := 1303) (by decide +kernel)) rfl, gw_in (List.mem_of_getElem? (i := 47) (by decide +kernel)) rfl, by decide +kernel, by decide⟩
theorem iyX6_seed : Cond.instanceMethod yX6_seed ∈ gw := gw_in (List.mem_of_getElem? (i := 1301) (by decide +kernel)) rfl
theorem seX6_seed : Cond.selects RX6 yX6_seed yX6_seed ∈ gw := gw_in (List.mem_of_getElem? (i := 1302) (by decide +kernel)) rfl
theorem okJ1_charAt_3b067 : OkM mJ1_charAt_3b067 := OkM.of (lks := lks_RJ1) (N := 15) lkp_RJ1 rfl (by decide +kernel)
theorem oyJ1_charAt_3b067 : OkY mJ1_charAt_3b067 2 := ⟨gw_in (List.mem_of_getElem? (i := 354) (by decide +kernel)) rfl, gw_in (List.mem_of_getElem? (i := 51) (by decide +kernel)) rfl, by decide +kernel, by decide⟩
theorem syJ1_charAt_3b067 : Cond.static yJ1_charAt_3b067 ∈ gw := gw_in (List.mem_of_getElem? (i := 353) (by decide +kernel)) rfl
theorem okX6_wipe : OkM mX6_wipe := OkM.of (lks := lks_RX6) (N := 12) lkp_RX6 rfl (by decide +kernel)
theorem oyX6_wipe : OkY mX6_wipe 0 := ⟨gw_in (List.mem_of_getElem? (i := 994) (by decide +kernel)) rfl, gw_in (List.mem_of_getElem? (i := 47) (by decide +kernel)) rfl, by decide +kernel, by decide⟩
theorem iyX6_wipe : Cond.instanceMethod yX6_wipe ∈ gw := gw_in (List.mem_of_getElem? (i := 992) (by decide +kernel)) rfl
theorem seX6_wipe : Cond.selects RX6 yX6_wipe yX6_wipe ∈ gw := gw_in (List.mem_of_getElem? (i := 993) (by decide +kernel)) rfl
theorem okX0_fillGainsOfNeed : OkM mX0_fillGainsOfNeed := OkM.of (lks := lks_RX0) (N := 11) lkp_RX0 rfl (by decide +kernel)
theorem oyX0_fillGainsOfNeed : OkY mX0_fillGainsOfNeed 1 := ⟨gw_in (List.mem_of_getElem? (i := 721) (by decide +kernel)) rfl, gw_in (List.mem_of_getElem? (i := 45) (by decide +kernel)) rfl, by decide +kernel, by decide⟩
theorem iyX0_fillGainsOfNeed : Cond.instanceMethod yX0_fillGainsOfNeed ∈ gw := gw_in (List.mem_of_getElem? (i := 719) (by decide +kernel)) rfl
theorem seX0_fillGainsOfNeed : Cond.selects RX0 yX0_fillGainsOfNeed yX0_fillGainsOfNeed ∈ gw := gw_in (List.mem_of_getElem? (i := 720) (by decide +kernel)) rfl
theorem okJ0_checkIndex_df160 : OkM mJ0_checkIndex_df160 := OkM.of (lks := lks_RJ0) (N := 10) lkp_RJ0 rfl (by decide +kernel)
theorem oyJ0_checkIndex_df160 : OkY mJ0_checkIndex_df160 2 := ⟨gw_in (List.mem_of_getElem? (i := 357) (by decide +kernel)) rfl, gw_in (List.mem_of_getElem? (i := 50) (by decide +kernel)) rfl, by decide +kernel, by decide⟩
theorem syJ0_checkIndex_df160 : Cond.static yJ0_checkIndex_df160 ∈ gw := gw_in (List.mem_of_getElem? (i := 356) (by decide +kernel)) rfl
theorem okX5_isSheet : OkM mX5_isSheet := OkM.of (lks := lks_RX5) (N := 7) lkp_RX5 rfl (by decide +kernel)
theorem oyX5_isSheet : OkY mX5_isSheet 1 := ⟨gw_in (List.mem_of_getElem? (i := 841) (by decide +kernel)) rfl, gw_in (List.mem_of_getElem? (i := 41) (by decide +kernel)) rfl, by decide +kernel, by decide⟩
theorem syX5_isSheet : Cond.static yX5_isSheet ∈ gw := gw_in (List.mem_of_getElem? (i := 840) (by decide +kernel)) rfl
theorem okX6_isSheet : OkM mX6_isSheet := OkM.of (lks := lks_RX6) (N := 7) lkp_RX6 rfl (by decide +kernel)
theorem oyX6_isSheet : OkY mX6_isSheet 1 := ⟨gw_in (List.mem_of_getElem? (i := 1321) (by decide +kernel)) rfl, gw_in (List.mem_of_getElem? (i := 47) (by decide +kernel)) rfl, by decide +kernel, by decide⟩
theorem syX6_isSheet : Cond.static yX6_isSheet ∈ gw := gw_in (List.mem_of_getElem? (i := 1320) (by decide +kernel)) rfl
