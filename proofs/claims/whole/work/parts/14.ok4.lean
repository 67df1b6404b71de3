/-! ===== the methods: their tables are right, their words; printed by wip/whole/mk12.py ===== -/
theorem okX6_copy : OkM mX6_copy := OkM.of (lks := lks_RX6) (N := 190) lkp_RX6 rfl (by decide +kernel)
theorem oyX6_copy : OkY mX6_copy 5 := ⟨gw_in (List.mem_of_getElem? (i := 1329) (by decide +kernel)) rfl, gw_in (List.mem_of_getElem? (i := 47) (by decide +kernel)) rfl, by decide +kernel, by decide⟩
theorem iyX6_copy : Cond.instanceMethod yX6_copy ∈ gw := gw_in (List.mem_of_getElem? (i := 1327) (by decide +kernel)) rfl
theorem seX6_copy : Cond.selects RX6 yX6_copy yX6_copy ∈ gw := gw_in (List.mem_of_getElem? (i := 1328) (by decide +kernel)) rfl
theorem okX1_stepOn : OkM mX1_stepOn := OkM.of (lks := lks_RX1) (N := 177) lkp_RX1 rfl (by decide +kernel)
theorem oyX1_stepOn : OkY mX1_stepOn 0 := ⟨gw_in (List.mem_of_getElem? (i := 317) (by decide +kernel)) rfl, gw_in (List.mem_of_getElem? (i := 44) (by decide +kernel)) rfl, by decide +kernel, by decide⟩
theorem iyX1_stepOn : Cond.instanceMethod yX1_stepOn ∈ gw := gw_in (List.mem_of_getElem? (i := 315) (by decide +kernel)) rfl
theorem seX1_stepOn : Cond.selects RX1 yX1_stepOn yX1_stepOn ∈ gw := gw_in (List.mem_of_getElem? (i := 316) (by decide +kernel)) rfl
theorem okX0_weighGains : OkM mX0_weighGains := OkM.of (lks := lks_RX0) (N := 158) lkp_RX0 rfl (by decide +kernel)
theorem oyX0_weighGains : OkY mX0_weighGains 0 := ⟨gw_in (List.mem_of_getElem? (i := 737) (by decide +kernel)) rfl, gw_in (List.mem_of_getElem? (i := 45) (by decide +kernel)) rfl, by decide +kernel, by decide⟩
theorem iyX0_weighGains : Cond.instanceMethod yX0_weighGains ∈ gw := gw_in (List.mem_of_getElem? (i := 735) (by decide +kernel)) rfl
theorem seX0_weighGains : Cond.selects RX0 yX0_weighGains yX0_weighGains ∈ gw := gw_in (List.mem_of_getElem? (i := 736) (by decide +kernel)) rfl
theorem okX6_judge : OkM mX6_judge := OkM.of (lks := lks_RX6) (N := 138) lkp_RX6 rfl (by decide +kernel)
theorem oyX6_judge : OkY mX6_judge 1 := ⟨gw_in (List.mem_of_getElem? (i := 1341) (by decide +kernel)) rfl, gw_in (List.mem_of_getElem? (i := 47) (by decide +kernel)) rfl, by decide +kernel, by decide⟩
theorem iyX6_judge : Cond.instanceMethod yX6_judge ∈ gw := gw_in (List.mem_of_getElem? (i := 1339) (by decide +kernel)) rfl
theorem seX6_judge : Cond.selects RX6 yX6_judge yX6_judge ∈ gw := gw_in (List.mem_of_getElem? (i := 1340) (by decide +kernel)) rfl
theorem okX5_init0 : OkM (mX5_init 0) := OkM.of (lks := lks_RX5) (N := 115) lkp_RX5 rfl (by decide +kernel)
theorem oyX5_init0 : OkY (mX5_init 0) 0 := ⟨gw_in (List.mem_of_getElem? (i := 59) (by decide +kernel)) rfl, gw_in (List.mem_of_getElem? (i := 41) (by decide +kernel)) rfl, by decide +kernel, by decide⟩
theorem okX5_init (nz : Nat) : OkM (mX5_init nz) := okX5_init0
theorem oyX5_init (nz : Nat) : OkY (mX5_init nz) 0 := oyX5_init0
theorem iyX5_init : Cond.instanceMethod yX5_init ∈ gw := gw_in (List.mem_of_getElem? (i := 58) (by decide +kernel)) rfl
theorem okX6_cheapest : OkM mX6_cheapest := OkM.of (lks := lks_RX6) (N := 110) lkp_RX6 rfl (by decide +kernel)
theorem oyX6_cheapest : OkY mX6_cheapest 3 := ⟨gw_in (List.mem_of_getElem? (i := 1267) (by decide +kernel)) rfl, gw_in (List.mem_of_getElem? (i := 47) (by decide +kernel)) rfl, by decide +kernel, by decide⟩
theorem iyX6_cheapest : Cond.instanceMethod yX6_cheapest ∈ gw := gw_in (List.mem_of_getElem? (i := 1265) (by decide +kernel)) rfl
theorem seX6_cheapest : Cond.selects RX6 yX6_cheapest yX6_cheapest ∈ gw := gw_in (List.mem_of_getElem? (i := 1266) (by decide +kernel)) rfl
theorem okX5_apart : OkM mX5_apart := OkM.of (lks := lks_RX5) (N := 99) lkp_RX5 rfl (by decide +kernel)
theorem oyX5_apart : OkY mX5_apart 2 := ⟨gw_in (List.mem_of_getElem? (i := 806) (by decide +kernel)) rfl, gw_in (List.mem_of_getElem? (i := 41) (by decide +kernel)) rfl, by decide +kernel, by decide⟩
theorem iyX5_apart : Cond.instanceMethod yX5_apart ∈ gw := gw_in (List.mem_of_getElem? (i := 804) (by decide +kernel)) rfl
theorem seX5_apart : Cond.selects RX5 yX5_apart yX5_apart ∈ gw := gw_in (List.mem_of_getElem? (i := 805) (by decide +kernel)) rfl
theorem okX0_fillOwedRows : OkM mX0_fillOwedRows := OkM.of (lks := lks_RX0) (N := 96) lkp_RX0 rfl (by decide +kernel)
theorem oyX0_fillOwedRows : OkY mX0_fillOwedRows 0 := ⟨gw_in (List.mem_of_getElem? (i := 763) (by decide +kernel)) rfl, gw_in (List.mem_of_getElem? (i := 45) (by decide +kernel)) rfl, by decide +kernel, by decide⟩
theorem iyX0_fillOwedRows : Cond.instanceMethod yX0_fillOwedRows ∈ gw := gw_in (List.mem_of_getElem? (i := 761) (by decide +kernel)) rfl
theorem seX0_fillOwedRows : Cond.selects RX0 yX0_fillOwedRows yX0_fillOwedRows ∈ gw := gw_in (List.mem_of_getElem? (i := 762) (by decide +kernel)) rfl
theorem okX0_gather : OkM mX0_gather := OkM.of (lks := lks_RX0) (N := 92) lkp_RX0 rfl (by decide +kernel)
theorem oyX0_gather : OkY mX0_gather 0 := ⟨gw_in (List.mem_of_getElem? (i := 604) (by decide +kernel)) rfl, gw_in (List.mem_of_getElem? (i := 45) (by decide +kernel)) rfl, by decide +kernel, by decide⟩
theorem iyX0_gather : Cond.instanceMethod yX0_gather ∈ gw := gw_in (List.mem_of_getElem? (i := 602) (by decide +kernel)) rfl
theorem seX0_gather : Cond.selects RX0 yX0_gather yX0_gather ∈ gw := gw_in (List.mem_of_getElem? (i := 603) (by decide +kernel)) rfl
theorem okX5_tries : OkM mX5_tries := OkM.of (lks := lks_RX5) (N := 88) lkp_RX5 rfl (by decide +kernel)
theorem oyX5_tries : OkY mX5_tries 3 := ⟨gw_in (List.mem_of_getElem? (i := 811) (by decide +kernel)) rfl, gw_in (List.mem_of_getElem? (i := 41) (by decide +kernel)) rfl, by decide +kernel, by decide⟩
theorem iyX5_tries : Cond.instanceMethod yX5_tries ∈ gw := gw_in (List.mem_of_getElem? (i := 809) (by decide +kernel)) rfl
theorem seX5_tries : Cond.selects RX5 yX5_tries yX5_tries ∈ gw := gw_in (List.mem_of_getElem? (i := 810) (by decide +kernel)) rfl
theorem okX6_drop : OkM mX6_drop := OkM.of (lks := lks_RX6) (N := 86) lkp_RX6 rfl (by decide +kernel)
theorem oyX6_drop : OkY mX6_drop 0 := ⟨gw_in (List.mem_of_getElem? (i := 1095) (by decide +kernel)) rfl, gw_in (List.mem_of_getElem? (i := 47) (by decide +kernel)) rfl, by decide +kernel, by decide⟩
theorem iyX6_drop : Cond.instanceMethod yX6_drop ∈ gw := gw_in (List.mem_of_getElem? (i := 1093) (by decide +kernel)) rfl
theorem seX6_drop : Cond.selects RX6 yX6_drop yX6_drop ∈ gw := gw_in (List.mem_of_getElem? (i := 1094) (by decide +kernel)) rfl
theorem okX4_partOf : OkM mX4_partOf := OkM.of (lks := lks_RX4) (N := 78) lkp_RX4 rfl (by decide +kernel)
theorem oyX4_partOf : OkY mX4_partOf 2 := ⟨gw_in (List.mem_of_getElem? (i := 478) (by decide +kernel)) rfl, gw_in (List.mem_of_getElem? (i := 42) (by decide +kernel)) rfl, by decide +kernel, by decide⟩
theorem iyX4_partOf : Cond.instanceMethod yX4_partOf ∈ gw := gw_in (List.mem_of_getElem? (i := 476) (by decide +kernel)) rfl
theorem seX4_partOf : Cond.selects RX4 yX4_partOf yX4_partOf ∈ gw := gw_in (List.mem_of_getElem? (i := 477) (by decide +kernel)) rfl
theorem okX6_takesAll : OkM mX6_takesAll := OkM.of (lks := lks_RX6) (N := 77) lkp_RX6 rfl (by decide +kernel)
theorem oyX6_takesAll : OkY mX6_takesAll 0 := ⟨gw_in (List.mem_of_getElem? (i := 1005) (by decide +kernel)) rfl, gw_in (List.mem_of_getElem? (i := 47) (by decide +kernel)) rfl, by decide +kernel, by decide⟩
theorem iyX6_takesAll : Cond.instanceMethod yX6_takesAll ∈ gw := gw_in (List.mem_of_getElem? (i := 1004) (by decide +kernel)) rfl
theorem seX6_takesAll : Cond.selects RX6 yX6_takesAll yX6_takesAll ∈ gw := gw_in (List.mem_of_getElem? (i := 5) (by decide +kernel)) rfl
theorem okX6_apart : OkM mX6_apart := OkM.of (lks := lks_RX6) (N := 74) lkp_RX6 rfl (by decide +kernel)
theorem oyX6_apart : OkY mX6_apart 2 := ⟨gw_in (List.mem_of_getElem? (i := 1295) (by decide +kernel)) rfl, gw_in (List.mem_of_getElem? (i := 47) (by decide +kernel)) rfl, by decide +kernel, by decide⟩
theorem iyX6_apart : Cond.instanceMethod yX6_apart ∈ gw := gw_in (List.mem_of_getElem? (i := 1293) (by decide +kernel)) rfl
theorem seX6_apart : Cond.selects RX6 yX6_apart yX6_apart ∈ gw := gw_in (List.mem_of_getElem? (i := 1294) (by decide +kernel)) rfl
theorem okX1_isWord : OkM mX1_isWord := OkM.of (lks := lks_RX1) (N := 68) lkp_RX1 rfl (by decide +kernel)
theorem oyX1_isWord : OkY mX1_isWord 1 := ⟨gw_in (List.mem_of_getElem? (i := 333) (by decide +kernel)) rfl, gw_in (List.mem_of_getElem? (i := 44) (by decide +kernel)) rfl, by decide +kernel, by decide⟩
theorem iyX1_isWord : Cond.instanceMethod yX1_isWord ∈ gw := gw_in (List.mem_of_getElem? (i := 331) (by decide +kernel)) rfl
theorem seX1_isWord : Cond.selects RX1 yX1_isWord yX1_isWord ∈ gw := gw_in (List.mem_of_getElem? (i := 332) (by decide +kernel)) rfl
theorem okX5_needOf : OkM mX5_needOf := OkM.of (lks := lks_RX5) (N := 65) lkp_RX5 rfl (by decide +kernel)
theorem oyX5_needOf : OkY mX5_needOf 2 := ⟨gw_in (List.mem_of_getElem? (i := 509) (by decide +kernel)) rfl, gw_in (List.mem_of_getElem? (i := 41) (by decide +kernel)) rfl, by decide +kernel, by decide⟩
theorem iyX5_needOf : Cond.instanceMethod yX5_needOf ∈ gw := gw_in (List.mem_of_getElem? (i := 507) (by decide +kernel)) rfl
theorem seX5_needOf : Cond.selects RX5 yX5_needOf yX5_needOf ∈ gw := gw_in (List.mem_of_getElem? (i := 508) (by decide +kernel)) rfl
theorem okX1_wordOfKind : OkM mX1_wordOfKind := OkM.of (lks := lks_RX1) (N := 61) lkp_RX1 rfl (by decide +kernel)
theorem oyX1_wordOfKind : OkY mX1_wordOfKind 1 := ⟨gw_in (List.mem_of_getElem? (i := 422) (by decide +kernel)) rfl, gw_in (List.mem_of_getElem? (i := 44) (by decide +kernel)) rfl, by decide +kernel, by decide⟩
theorem syX1_wordOfKind : Cond.static yX1_wordOfKind ∈ gw := gw_in (List.mem_of_getElem? (i := 421) (by decide +kernel)) rfl
theorem okX5_cheapest : OkM mX5_cheapest := OkM.of (lks := lks_RX5) (N := 59) lkp_RX5 rfl (by decide +kernel)
theorem oyX5_cheapest : OkY mX5_cheapest 3 := ⟨gw_in (List.mem_of_getElem? (i := 741) (by decide +kernel)) rfl, gw_in (List.mem_of_getElem? (i := 41) (by decide +kernel)) rfl, by decide +kernel, by decide⟩
theorem iyX5_cheapest : Cond.instanceMethod yX5_cheapest ∈ gw := gw_in (List.mem_of_getElem? (i := 739) (by decide +kernel)) rfl
theorem seX5_cheapest : Cond.selects RX5 yX5_cheapest yX5_cheapest ∈ gw := gw_in (List.mem_of_getElem? (i := 740) (by decide +kernel)) rfl
theorem okX6_change : OkM mX6_change := OkM.of (lks := lks_RX6) (N := 57) lkp_RX6 rfl (by decide +kernel)
theorem oyX6_change : OkY mX6_change 3 := ⟨gw_in (List.mem_of_getElem? (i := 1091) (by decide +kernel)) rfl, gw_in (List.mem_of_getElem? (i := 47) (by decide +kernel)) rfl, by decide +kernel, by decide⟩
theorem iyX6_change : Cond.instanceMethod yX6_change ∈ gw := gw_in (List.mem_of_getElem? (i := 1089) (by decide +kernel)) rfl
theorem seX6_change : Cond.selects RX6 yX6_change yX6_change ∈ gw := gw_in (List.mem_of_getElem? (i := 1090) (by decide +kernel)) rfl
theorem okX5_met : OkM mX5_met := OkM.of (lks := lks_RX5) (N := 56) lkp_RX5 rfl (by decide +kernel)
theorem oyX5_met : OkY mX5_met 1 := ⟨gw_in (List.mem_of_getElem? (i := 576) (by decide +kernel)) rfl, gw_in (List.mem_of_getElem? (i := 41) (by decide +kernel)) rfl, by decide +kernel, by decide⟩
theorem iyX5_met : Cond.instanceMethod yX5_met ∈ gw := gw_in (List.mem_of_getElem? (i := 574) (by decide +kernel)) rfl
theorem seX5_met : Cond.selects RX5 yX5_met yX5_met ∈ gw := gw_in (List.mem_of_getElem? (i := 575) (by decide +kernel)) rfl
theorem okX6_thrown : OkM mX6_thrown := OkM.of (lks := lks_RX6) (N := 53) lkp_RX6 rfl (by decide +kernel)
theorem oyX6_thrown : OkY mX6_thrown 0 := ⟨gw_in (List.mem_of_getElem? (i := 1119) (by decide +kernel)) rfl, gw_in (List.mem_of_getElem? (i := 47) (by decide +kernel)) rfl, by decide +kernel, by decide⟩
theorem iyX6_thrown : Cond.instanceMethod yX6_thrown ∈ gw := gw_in (List.mem_of_getElem? (i := 1118) (by decide +kernel)) rfl
theorem seX6_thrown : Cond.selects RX6 yX6_thrown yX6_thrown ∈ gw := gw_in (List.mem_of_getElem? (i := 20) (by decide +kernel)) rfl
theorem okX6_sureOf : OkM mX6_sureOf := OkM.of (lks := lks_RX6) (N := 52) lkp_RX6 rfl (by decide +kernel)
theorem oyX6_sureOf : OkY mX6_sureOf 2 := ⟨gw_in (List.mem_of_getElem? (i := 1217) (by decide +kernel)) rfl, gw_in (List.mem_of_getElem? (i := 47) (by decide +kernel)) rfl, by decide +kernel, by decide⟩
theorem iyX6_sureOf : Cond.instanceMethod yX6_sureOf ∈ gw := gw_in (List.mem_of_getElem? (i := 1216) (by decide +kernel)) rfl
theorem seX6_sureOf : Cond.selects RX6 yX6_sureOf yX6_sureOf ∈ gw := gw_in (List.mem_of_getElem? (i := 33) (by decide +kernel)) rfl
theorem okX6_harmOf : OkM mX6_harmOf := OkM.of (lks := lks_RX6) (N := 51) lkp_RX6 rfl (by decide +kernel)
theorem oyX6_harmOf : OkY mX6_harmOf 2 := ⟨gw_in (List.mem_of_getElem? (i := 1245) (by decide +kernel)) rfl, gw_in (List.mem_of_getElem? (i := 47) (by decide +kernel)) rfl, by decide +kernel, by decide⟩
theorem iyX6_harmOf : Cond.instanceMethod yX6_harmOf ∈ gw := gw_in (List.mem_of_getElem? (i := 1244) (by decide +kernel)) rfl
theorem seX6_harmOf : Cond.selects RX6 yX6_harmOf yX6_harmOf ∈ gw := gw_in (List.mem_of_getElem? (i := 36) (by decide +kernel)) rfl
theorem okX5_judge : OkM mX5_judge := OkM.of (lks := lks_RX5) (N := 48) lkp_RX5 rfl (by decide +kernel)
theorem oyX5_judge : OkY mX5_judge 1 := ⟨gw_in (List.mem_of_getElem? (i := 878) (by decide +kernel)) rfl, gw_in (List.mem_of_getElem? (i := 41) (by decide +kernel)) rfl, by decide +kernel, by decide⟩
theorem iyX5_judge : Cond.instanceMethod yX5_judge ∈ gw := gw_in (List.mem_of_getElem? (i := 876) (by decide +kernel)) rfl
theorem seX5_judge : Cond.selects RX5 yX5_judge yX5_judge ∈ gw := gw_in (List.mem_of_getElem? (i := 877) (by decide +kernel)) rfl
theorem okX6_owes : OkM mX6_owes := OkM.of (lks := lks_RX6) (N := 48) lkp_RX6 rfl (by decide +kernel)
theorem oyX6_owes : OkY mX6_owes 1 := ⟨gw_in (List.mem_of_getElem? (i := 1146) (by decide +kernel)) rfl, gw_in (List.mem_of_getElem? (i := 47) (by decide +kernel)) rfl, by decide +kernel, by decide⟩
theorem iyX6_owes : Cond.instanceMethod yX6_owes ∈ gw := gw_in (List.mem_of_getElem? (i := 1144) (by decide +kernel)) rfl
theorem seX6_owes : Cond.selects RX6 yX6_owes yX6_owes ∈ gw := gw_in (List.mem_of_getElem? (i := 1145) (by decide +kernel)) rfl
theorem okX1_init0 : OkM (mX1_init 0) := OkM.of (lks := lks_RX1) (N := 46) lkp_RX1 rfl (by decide +kernel)
theorem oyX1_init0 : OkY (mX1_init 0) 1 := ⟨gw_in (List.mem_of_getElem? (i := 164) (by decide +kernel)) rfl, gw_in (List.mem_of_getElem? (i := 44) (by decide +kernel)) rfl, by decide +kernel, by decide⟩
theorem okX1_init (nz : Nat) : OkM (mX1_init nz) := okX1_init0
theorem oyX1_init (nz : Nat) : OkY (mX1_init nz) 1 := oyX1_init0
theorem iyX1_init : Cond.instanceMethod yX1_init ∈ gw := gw_in (List.mem_of_getElem? (i := 163) (by decide +kernel)) rfl
theorem okX6_told : OkM mX6_told := OkM.of (lks := lks_RX6) (N := 46) lkp_RX6 rfl (by decide +kernel)
theorem oyX6_told : OkY mX6_told 2 := ⟨gw_in (List.mem_of_getElem? (i := 1205) (by decide +kernel)) rfl, gw_in (List.mem_of_getElem? (i := 47) (by decide +kernel)) rfl, by decide +kernel, by decide⟩
theorem iyX6_told : Cond.instanceMethod yX6_told ∈ gw := gw_in (List.mem_of_getElem? (i := 1204) (by decide +kernel)) rfl
theorem seX6_told : Cond.selects RX6 yX6_told yX6_told ∈ gw := gw_in (List.mem_of_getElem? (i := 32) (by decide +kernel)) rfl
theorem okX6_metBy : OkM mX6_metBy := OkM.of (lks := lks_RX6) (N := 41) lkp_RX6 rfl (by decide +kernel)
theorem oyX6_metBy : OkY mX6_metBy 1 := ⟨gw_in (List.mem_of_getElem? (i := 1174) (by decide +kernel)) rfl, gw_in (List.mem_of_getElem? (i := 47) (by decide +kernel)) rfl, by decide +kernel, by decide⟩
theorem iyX6_metBy : Cond.instanceMethod yX6_metBy ∈ gw := gw_in (List.mem_of_getElem? (i := 1173) (by decide +kernel)) rfl
theorem seX6_metBy : Cond.selects RX6 yX6_metBy yX6_metBy ∈ gw := gw_in (List.mem_of_getElem? (i := 27) (by decide +kernel)) rfl
theorem okX6_hold : OkM mX6_hold := OkM.of (lks := lks_RX6) (N := 41) lkp_RX6 rfl (by decide +kernel)
theorem oyX6_hold : OkY mX6_hold 2 := ⟨gw_in (List.mem_of_getElem? (i := 1307) (by decide +kernel)) rfl, gw_in (List.mem_of_getElem? (i := 47) (by decide +kernel)) rfl, by decide +kernel, by decide⟩
theorem iyX6_hold : Cond.instanceMethod yX6_hold ∈ gw := gw_in (List.mem_of_getElem? (i := 1305) (by decide +kernel)) rfl
theorem seX6_hold : Cond.selects RX6 yX6_hold yX6_hold ∈ gw := gw_in (List.mem_of_getElem? (i := 1306) (by decide +kernel)) rfl
theorem okX4_keptIn : OkM mX4_keptIn := OkM.of (lks := lks_RX4) (N := 36) lkp_RX4 rfl (by decide +kernel)
theorem oyX4_keptIn : OkY mX4_keptIn 1 := ⟨gw_in (List.mem_of_getElem? (i := 541) (by decide +kernel)) rfl, gw_in (List.mem_of_getElem? (i := 42) (by decide +kernel)) rfl, by decide +kernel, by decide⟩
theorem iyX4_keptIn : Cond.instanceMethod yX4_keptIn ∈ gw := gw_in (List.mem_of_getElem? (i := 539) (by decide +kernel)) rfl
theorem seX4_keptIn : Cond.selects RX4 yX4_keptIn yX4_keptIn ∈ gw := gw_in (List.mem_of_getElem? (i := 540) (by decide +kernel)) rfl
theorem okX6_mean : OkM mX6_mean := OkM.of (lks := lks_RX6) (N := 36) lkp_RX6 rfl (by decide +kernel)
theorem oyX6_mean : OkY mX6_mean 2 := ⟨gw_in (List.mem_of_getElem? (i := 1225) (by decide +kernel)) rfl, gw_in (List.mem_of_getElem? (i := 47) (by decide +kernel)) rfl, by decide +kernel, by decide⟩
theorem iyX6_mean : Cond.instanceMethod yX6_mean ∈ gw := gw_in (List.mem_of_getElem? (i := 1223) (by decide +kernel)) rfl
theorem seX6_mean : Cond.selects RX6 yX6_mean yX6_mean ∈ gw := gw_in (List.mem_of_getElem? (i := 1224) (by decide +kernel)) rfl
theorem okX5_kept : OkM mX5_kept := OkM.of (lks := lks_RX5) (N := 32) lkp_RX5 rfl (by decide +kernel)
theorem oyX5_kept : OkY mX5_kept 0 := ⟨gw_in (List.mem_of_getElem? (i := 537) (by decide +kernel)) rfl, gw_in (List.mem_of_getElem? (i := 41) (by decide +kernel)) rfl, by decide +kernel, by decide⟩
theorem iyX5_kept : Cond.instanceMethod yX5_kept ∈ gw := gw_in (List.mem_of_getElem? (i := 535) (by decide +kernel)) rfl
theorem seX5_kept : Cond.selects RX5 yX5_kept yX5_kept ∈ gw := gw_in (List.mem_of_getElem? (i := 536) (by decide +kernel)) rfl
theorem okX4_heldSpots : OkM mX4_heldSpots := OkM.of (lks := lks_RX4) (N := 31) lkp_RX4 rfl (by decide +kernel)
theorem oyX4_heldSpots : OkY mX4_heldSpots 0 := ⟨gw_in (List.mem_of_getElem? (i := 904) (by decide +kernel)) rfl, gw_in (List.mem_of_getElem? (i := 42) (by decide +kernel)) rfl, by decide +kernel, by decide⟩
theorem iyX4_heldSpots : Cond.instanceMethod yX4_heldSpots ∈ gw := gw_in (List.mem_of_getElem? (i := 902) (by decide +kernel)) rfl
theorem seX4_heldSpots : Cond.selects RX4 yX4_heldSpots yX4_heldSpots ∈ gw := gw_in (List.mem_of_getElem? (i := 903) (by decide +kernel)) rfl
theorem okX5_hangs : OkM mX5_hangs := OkM.of (lks := lks_RX5) (N := 30) lkp_RX5 rfl (by decide +kernel)
theorem oyX5_hangs : OkY mX5_hangs 1 := ⟨gw_in (List.mem_of_getElem? (i := 792) (by decide +kernel)) rfl, gw_in (List.mem_of_getElem? (i := 41) (by decide +kernel)) rfl, by decide +kernel, by decide⟩
theorem iyX5_hangs : Cond.instanceMethod yX5_hangs ∈ gw := gw_in (List.mem_of_getElem? (i := 790) (by decide +kernel)) rfl
theorem seX5_hangs : Cond.selects RX5 yX5_hangs yX5_hangs ∈ gw := gw_in (List.mem_of_getElem? (i := 791) (by decide +kernel)) rfl
theorem okX4_isMet : OkM mX4_isMet := OkM.of (lks := lks_RX4) (N := 26) lkp_RX4 rfl (by decide +kernel)
theorem oyX4_isMet : OkY mX4_isMet 2 := ⟨gw_in (List.mem_of_getElem? (i := 584) (by decide +kernel)) rfl, gw_in (List.mem_of_getElem? (i := 42) (by decide +kernel)) rfl, by decide +kernel, by decide⟩
theorem iyX4_isMet : Cond.instanceMethod yX4_isMet ∈ gw := gw_in (List.mem_of_getElem? (i := 582) (by decide +kernel)) rfl
theorem seX4_isMet : Cond.selects RX4 yX4_isMet yX4_isMet ∈ gw := gw_in (List.mem_of_getElem? (i := 583) (by decide +kernel)) rfl
theorem okX6_isNumber : OkM mX6_isNumber := OkM.of (lks := lks_RX6) (N := 26) lkp_RX6 rfl (by decide +kernel)
theorem oyX6_isNumber : OkY mX6_isNumber 2 := ⟨gw_in (List.mem_of_getElem? (i := 1040) (by decide +kernel)) rfl, gw_in (List.mem_of_getElem? (i := 47) (by decide +kernel)) rfl, by decide +kernel, by decide⟩
theorem iyX6_isNumber : Cond.instanceMethod yX6_isNumber ∈ gw := gw_in (List.mem_of_getElem? (i := 1039) (by decide +kernel)) rfl
theorem seX6_isNumber : Cond.selects RX6 yX6_isNumber yX6_isNumber ∈ gw := gw_in (List.mem_of_getElem? (i := 13) (by decide +kernel)) rfl
theorem okJ0_charAt_5068e : OkM mJ0_charAt_5068e := OkM.of (lks := lks_RJ0) (N := 25) lkp_RJ0 rfl (by decide +kernel)
theorem oyJ0_charAt_5068e : OkY mJ0_charAt_5068e 1 := ⟨gw_in (List.mem_of_getElem? (i := 347) (by decide +kernel)) rfl, gw_in (List.mem_of_getElem? (i := 50) (by decide +kernel)) rfl, by decide +kernel, by decide⟩
theorem iyJ0_charAt_5068e : Cond.instanceMethod yJ0_charAt_5068e ∈ gw := gw_in (List.mem_of_getElem? (i := 345) (by decide +kernel)) rfl
theorem seJ0_charAt_5068e : Cond.selects RJ0 yJ0_charAt_5068e yJ0_charAt_5068e ∈ gw := gw_in (List.mem_of_getElem? (i := 346) (by decide +kernel)) rfl
theorem okX6_lay : OkM mX6_lay := OkM.of (lks := lks_RX6) (N := 22) lkp_RX6 rfl (by decide +kernel)
theorem oyX6_lay : OkY mX6_lay 1 := ⟨gw_in (List.mem_of_getElem? (i := 1128) (by decide +kernel)) rfl, gw_in (List.mem_of_getElem? (i := 47) (by decide +kernel)) rfl, by decide +kernel, by decide⟩
theorem iyX6_lay : Cond.instanceMethod yX6_lay ∈ gw := gw_in (List.mem_of_getElem? (i := 1126) (by decide +kernel)) rfl
theorem seX6_lay : Cond.selects RX6 yX6_lay yX6_lay ∈ gw := gw_in (List.mem_of_getElem? (i := 1127) (by decide +kernel)) rfl
theorem okX5_isNeed : OkM mX5_isNeed := OkM.of (lks := lks_RX5) (N := 21) lkp_RX5 rfl (by decide +kernel)
theorem oyX5_isNeed : OkY mX5_isNeed 1 := ⟨gw_in (List.mem_of_getElem? (i := 513) (by decide +kernel)) rfl, gw_in (List.mem_of_getElem? (i := 41) (by decide +kernel)) rfl, by decide +kernel, by decide⟩
theorem iyX5_isNeed : Cond.instanceMethod yX5_isNeed ∈ gw := gw_in (List.mem_of_getElem? (i := 512) (by decide +kernel)) rfl
theorem seX5_isNeed : Cond.selects RX5 yX5_isNeed yX5_isNeed ∈ gw := gw_in (List.mem_of_getElem? (i := 2) (by decide +kernel)) rfl
theorem okX6_tear : OkM mX6_tear := OkM.of (lks := lks_RX6) (N := 20) lkp_RX6 rfl (by decide +kernel)
theorem oyX6_tear : OkY mX6_tear 0 := ⟨gw_in (List.mem_of_getElem? (i := 1353) (by decide +kernel)) rfl, gw_in (List.mem_of_getElem? (i := 47) (by decide +kernel)) rfl, by decide +kernel, by decide⟩
theorem iyX6_tear : Cond.instanceMethod yX6_tear ∈ gw := gw_in (List.mem_of_getElem? (i := 1351) (by decide +kernel)) rfl
theorem seX6_tear : Cond.selects RX6 yX6_tear yX6_tear ∈ gw := gw_in (List.mem_of_getElem? (i := 1352) (by decide +kernel)) rfl
theorem okJ3_checkIndex_8e157 : OkM mJ3_checkIndex_8e157 := OkM.of (lks := lks_RJ3) (N := 18) lkp_RJ3 rfl (by decide +kernel)
theorem oyJ3_checkIndex_8e157 : OkY mJ3_checkIndex_8e157 3 := ⟨gw_in (List.mem_of_getElem? (i := 362) (by decide +kernel)) rfl, gw_in (List.mem_of_getElem? (i := 52) (by decide +kernel)) rfl, by decide +kernel, by decide⟩
theorem syJ3_checkIndex_8e157 : Cond.static yJ3_checkIndex_8e157 ∈ gw := gw_in (List.mem_of_getElem? (i := 361) (by decide +kernel)) rfl
theorem okX6_in : OkM mX6_in := OkM.of (lks := lks_RX6) (N := 16) lkp_RX6 rfl (by decide +kernel)
theorem oyX6_in : OkY mX6_in 3 := ⟨gw_in (List.mem_of_getElem? (i := 985) (by decide +kernel)) rfl, gw_in (List.mem_of_getElem? (i := 47) (by decide +kernel)) rfl, by decide +kernel, by decide⟩
theorem syX6_in : Cond.static yX6_in ∈ gw := gw_in (List.mem_of_getElem? (i := 984) (by decide +kernel)) rfl
theorem okX5_has : OkM mX5_has := OkM.of (lks := lks_RX5) (N := 15) lkp_RX5 rfl (by decide +kernel)
theorem oyX5_has : OkY mX5_has 2 := ⟨gw_in (List.mem_of_getElem? (i := 548) (by decide +kernel)) rfl, gw_in (List.mem_of_getElem? (i := 41) (by decide +kernel)) rfl, by decide +kernel, by decide⟩
theorem syX5_has : Cond.static yX5_has ∈ gw := gw_in (List.mem_of_getElem? (i := 547) (by decide +kernel)) rfl
theorem okX6_its : OkM mX6_its := OkM.of (lks := lks_RX6) (N := 15) lkp_RX6 rfl (by decide +kernel)
theorem oyX6_its : OkY mX6_its 2 := ⟨gw_in (List.mem_of_getElem? (i := 1087) (by decide +kernel)) rfl, gw_in (List.mem_of_getElem? (i := 47) (by decide +kernel)) rfl, by decide +kernel, by decide⟩
theorem iyX6_its : Cond.instanceMethod yX6_its ∈ gw := gw_in (List.mem_of_getElem? (i := 1086) (by decide +kernel)) rfl
theorem seX6_its : Cond.selects RX6 yX6_its yX6_its ∈ gw := gw_in (List.mem_of_getElem? (i := 17) (by decide +kernel)) rfl
theorem okX6_isNeed : OkM mX6_isNeed := OkM.of (lks := lks_RX6) (N := 14) lkp_RX6 rfl (by decide +kernel)
theorem oyX6_isNeed : OkY mX6_isNeed 1 := ⟨gw_in (List.mem_of_getElem? (i := 1107) (by decide +kernel)) rfl, gw_in (List.mem_of_getElem? (i := 47) (by decide +kernel)) rfl, by decide +kernel, by decide⟩
theorem iyX6_isNeed : Cond.instanceMethod yX6_isNeed ∈ gw := gw_in (List.mem_of_getElem? (i := 1106) (by decide +kernel)) rfl
theorem seX6_isNeed : Cond.selects RX6 yX6_isNeed yX6_isNeed ∈ gw := gw_in (List.mem_of_getElem? (i := 18) (by decide +kernel)) rfl
theorem okJ0_length_8abf5 : OkM mJ0_length_8abf5 := OkM.of (lks := lks_RJ0) (N := 11) lkp_RJ0 rfl (by decide +kernel)
theorem oyJ0_length_8abf5 : OkY mJ0_length_8abf5 0 := ⟨gw_in (List.mem_of_getElem? (i := 337) (by decide +kernel)) rfl, gw_in (List.mem_of_getElem? (i := 50) (by decide +kernel)) rfl, by decide +kernel, by decide⟩
theorem iyJ0_length_8abf5 : Cond.instanceMethod yJ0_length_8abf5 ∈ gw := gw_in (List.mem_of_getElem? (i := 335) (by decide +kernel)) rfl
theorem seJ0_length_8abf5 : Cond.selects RJ0 yJ0_length_8abf5 yJ0_length_8abf5 ∈ gw := gw_in (List.mem_of_getElem? (i := 336) (by decide +kernel)) rfl
theorem okX5_isCoin : OkM mX5_isCoin := OkM.of (lks := lks_RX5) (N := 8) lkp_RX5 rfl (by decide +kernel)
theorem oyX5_isCoin : OkY mX5_isCoin 1 := ⟨gw_in (List.mem_of_getElem? (i := 453) (by decide +kernel)) rfl, gw_in (List.mem_of_getElem? (i := 41) (by decide +kernel)) rfl, by decide +kernel, by decide⟩
theorem syX5_isCoin : Cond.static yX5_isCoin ∈ gw := gw_in (List.mem_of_getElem? (i := 452) (by decide +kernel)) rfl
theorem okX5_isSpot : OkM mX5_isSpot := OkM.of (lks := lks_RX5) (N := 8) lkp_RX5 rfl (by decide +kernel)
theorem oyX5_isSpot : OkY mX5_isSpot 1 := ⟨gw_in (List.mem_of_getElem? (i := 823) (by decide +kernel)) rfl, gw_in (List.mem_of_getElem? (i := 41) (by decide +kernel)) rfl, by decide +kernel, by decide⟩
theorem syX5_isSpot : Cond.static yX5_isSpot ∈ gw := gw_in (List.mem_of_getElem? (i := 822) (by decide +kernel)) rfl
