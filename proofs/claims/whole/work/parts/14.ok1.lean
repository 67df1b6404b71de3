/-! ===== the methods: their tables are right, their words; printed by wip/whole/mk12.py ===== -/
theorem okX4_becomeAs : OkM mX4_becomeAs := OkM.of (lks := lks_RX4) (N := 213) lkp_RX4 rfl (by decide +kernel)
theorem oyX4_becomeAs : OkY mX4_becomeAs 1 := ⟨gw_in (List.mem_of_getElem? (i := 310) (by decide +kernel)) rfl, gw_in (List.mem_of_getElem? (i := 42) (by decide +kernel)) rfl, by decide +kernel, by decide⟩
theorem iyX4_becomeAs : Cond.instanceMethod yX4_becomeAs ∈ gw := gw_in (List.mem_of_getElem? (i := 308) (by decide +kernel)) rfl
theorem seX4_becomeAs : Cond.selects RX4 yX4_becomeAs yX4_becomeAs ∈ gw := gw_in (List.mem_of_getElem? (i := 309) (by decide +kernel)) rfl
theorem okX4_init0 : OkM (mX4_init 0) := OkM.of (lks := lks_RX4) (N := 170) lkp_RX4 rfl (by decide +kernel)
theorem oyX4_init0 : OkY (mX4_init 0) 0 := ⟨gw_in (List.mem_of_getElem? (i := 67) (by decide +kernel)) rfl, gw_in (List.mem_of_getElem? (i := 42) (by decide +kernel)) rfl, by decide +kernel, by decide⟩
theorem okX4_init (nz : Nat) : OkM (mX4_init nz) := okX4_init0
theorem oyX4_init (nz : Nat) : OkY (mX4_init nz) 0 := oyX4_init0
theorem iyX4_init : Cond.instanceMethod yX4_init ∈ gw := gw_in (List.mem_of_getElem? (i := 66) (by decide +kernel)) rfl
theorem okX5_copy : OkM mX5_copy := OkM.of (lks := lks_RX5) (N := 149) lkp_RX5 rfl (by decide +kernel)
theorem oyX5_copy : OkY mX5_copy 5 := ⟨gw_in (List.mem_of_getElem? (i := 865) (by decide +kernel)) rfl, gw_in (List.mem_of_getElem? (i := 41) (by decide +kernel)) rfl, by decide +kernel, by decide⟩
theorem iyX5_copy : Cond.instanceMethod yX5_copy ∈ gw := gw_in (List.mem_of_getElem? (i := 863) (by decide +kernel)) rfl
theorem seX5_copy : Cond.selects RX5 yX5_copy yX5_copy ∈ gw := gw_in (List.mem_of_getElem? (i := 864) (by decide +kernel)) rfl
theorem okX0_fillWeighedCosts : OkM mX0_fillWeighedCosts := OkM.of (lks := lks_RX0) (N := 120) lkp_RX0 rfl (by decide +kernel)
theorem oyX0_fillWeighedCosts : OkY mX0_fillWeighedCosts 0 := ⟨gw_in (List.mem_of_getElem? (i := 749) (by decide +kernel)) rfl, gw_in (List.mem_of_getElem? (i := 45) (by decide +kernel)) rfl, by decide +kernel, by decide⟩
theorem iyX0_fillWeighedCosts : Cond.instanceMethod yX0_fillWeighedCosts ∈ gw := gw_in (List.mem_of_getElem? (i := 747) (by decide +kernel)) rfl
theorem seX0_fillWeighedCosts : Cond.selects RX0 yX0_fillWeighedCosts yX0_fillWeighedCosts ∈ gw := gw_in (List.mem_of_getElem? (i := 748) (by decide +kernel)) rfl
theorem okX6_fewest : OkM mX6_fewest := OkM.of (lks := lks_RX6) (N := 118) lkp_RX6 rfl (by decide +kernel)
theorem oyX6_fewest : OkY mX6_fewest 3 := ⟨gw_in (List.mem_of_getElem? (i := 1256) (by decide +kernel)) rfl, gw_in (List.mem_of_getElem? (i := 47) (by decide +kernel)) rfl, by decide +kernel, by decide⟩
theorem iyX6_fewest : Cond.instanceMethod yX6_fewest ∈ gw := gw_in (List.mem_of_getElem? (i := 1254) (by decide +kernel)) rfl
theorem seX6_fewest : Cond.selects RX6 yX6_fewest yX6_fewest ∈ gw := gw_in (List.mem_of_getElem? (i := 1255) (by decide +kernel)) rfl
theorem okX6_need : OkM mX6_need := OkM.of (lks := lks_RX6) (N := 112) lkp_RX6 rfl (by decide +kernel)
theorem oyX6_need : OkY mX6_need 3 := ⟨gw_in (List.mem_of_getElem? (i := 1099) (by decide +kernel)) rfl, gw_in (List.mem_of_getElem? (i := 47) (by decide +kernel)) rfl, by decide +kernel, by decide⟩
theorem iyX6_need : Cond.instanceMethod yX6_need ∈ gw := gw_in (List.mem_of_getElem? (i := 1097) (by decide +kernel)) rfl
theorem seX6_need : Cond.selects RX6 yX6_need yX6_need ∈ gw := gw_in (List.mem_of_getElem? (i := 1098) (by decide +kernel)) rfl
theorem okX1_readNeed : OkM mX1_readNeed := OkM.of (lks := lks_RX1) (N := 109) lkp_RX1 rfl (by decide +kernel)
theorem oyX1_readNeed : OkY mX1_readNeed 0 := ⟨gw_in (List.mem_of_getElem? (i := 406) (by decide +kernel)) rfl, gw_in (List.mem_of_getElem? (i := 44) (by decide +kernel)) rfl, by decide +kernel, by decide⟩
theorem iyX1_readNeed : Cond.instanceMethod yX1_readNeed ∈ gw := gw_in (List.mem_of_getElem? (i := 404) (by decide +kernel)) rfl
theorem seX1_readNeed : Cond.selects RX1 yX1_readNeed yX1_readNeed ∈ gw := gw_in (List.mem_of_getElem? (i := 405) (by decide +kernel)) rfl
theorem okX0_cheapestFor : OkM mX0_cheapestFor := OkM.of (lks := lks_RX0) (N := 94) lkp_RX0 rfl (by decide +kernel)
theorem oyX0_cheapestFor : OkY mX0_cheapestFor 3 := ⟨gw_in (List.mem_of_getElem? (i := 745) (by decide +kernel)) rfl, gw_in (List.mem_of_getElem? (i := 45) (by decide +kernel)) rfl, by decide +kernel, by decide⟩
theorem iyX0_cheapestFor : Cond.instanceMethod yX0_cheapestFor ∈ gw := gw_in (List.mem_of_getElem? (i := 743) (by decide +kernel)) rfl
theorem seX0_cheapestFor : Cond.selects RX0 yX0_cheapestFor yX0_cheapestFor ∈ gw := gw_in (List.mem_of_getElem? (i := 744) (by decide +kernel)) rfl
theorem okX6_all : OkM mX6_all := OkM.of (lks := lks_RX6) (N := 91) lkp_RX6 rfl (by decide +kernel)
theorem oyX6_all : OkY mX6_all 2 := ⟨gw_in (List.mem_of_getElem? (i := 1221) (by decide +kernel)) rfl, gw_in (List.mem_of_getElem? (i := 47) (by decide +kernel)) rfl, by decide +kernel, by decide⟩
theorem iyX6_all : Cond.instanceMethod yX6_all ∈ gw := gw_in (List.mem_of_getElem? (i := 1219) (by decide +kernel)) rfl
theorem seX6_all : Cond.selects RX6 yX6_all yX6_all ∈ gw := gw_in (List.mem_of_getElem? (i := 1220) (by decide +kernel)) rfl
theorem okX6_owesOf : OkM mX6_owesOf := OkM.of (lks := lks_RX6) (N := 88) lkp_RX6 rfl (by decide +kernel)
theorem oyX6_owesOf : OkY mX6_owesOf 2 := ⟨gw_in (List.mem_of_getElem? (i := 1158) (by decide +kernel)) rfl, gw_in (List.mem_of_getElem? (i := 47) (by decide +kernel)) rfl, by decide +kernel, by decide⟩
theorem iyX6_owesOf : Cond.instanceMethod yX6_owesOf ∈ gw := gw_in (List.mem_of_getElem? (i := 1157) (by decide +kernel)) rfl
theorem seX6_owesOf : Cond.selects RX6 yX6_owesOf yX6_owesOf ∈ gw := gw_in (List.mem_of_getElem? (i := 25) (by decide +kernel)) rfl
theorem okX5_promise : OkM mX5_promise := OkM.of (lks := lks_RX5) (N := 81) lkp_RX5 rfl (by decide +kernel)
theorem oyX5_promise : OkY mX5_promise 4 := ⟨gw_in (List.mem_of_getElem? (i := 457) (by decide +kernel)) rfl, gw_in (List.mem_of_getElem? (i := 41) (by decide +kernel)) rfl, by decide +kernel, by decide⟩
theorem iyX5_promise : Cond.instanceMethod yX5_promise ∈ gw := gw_in (List.mem_of_getElem? (i := 455) (by decide +kernel)) rfl
theorem seX5_promise : Cond.selects RX5 yX5_promise yX5_promise ∈ gw := gw_in (List.mem_of_getElem? (i := 456) (by decide +kernel)) rfl
theorem okX6_write : OkM mX6_write := OkM.of (lks := lks_RX6) (N := 81) lkp_RX6 rfl (by decide +kernel)
theorem oyX6_write : OkY mX6_write 3 := ⟨gw_in (List.mem_of_getElem? (i := 1325) (by decide +kernel)) rfl, gw_in (List.mem_of_getElem? (i := 47) (by decide +kernel)) rfl, by decide +kernel, by decide⟩
theorem iyX6_write : Cond.instanceMethod yX6_write ∈ gw := gw_in (List.mem_of_getElem? (i := 1323) (by decide +kernel)) rfl
theorem seX6_write : Cond.selects RX6 yX6_write yX6_write ∈ gw := gw_in (List.mem_of_getElem? (i := 1324) (by decide +kernel)) rfl
theorem okX6_isWord : OkM mX6_isWord := OkM.of (lks := lks_RX6) (N := 77) lkp_RX6 rfl (by decide +kernel)
theorem oyX6_isWord : OkY mX6_isWord 1 := ⟨gw_in (List.mem_of_getElem? (i := 1026) (by decide +kernel)) rfl, gw_in (List.mem_of_getElem? (i := 47) (by decide +kernel)) rfl, by decide +kernel, by decide⟩
theorem iyX6_isWord : Cond.instanceMethod yX6_isWord ∈ gw := gw_in (List.mem_of_getElem? (i := 1025) (by decide +kernel)) rfl
theorem seX6_isWord : Cond.selects RX6 yX6_isWord yX6_isWord ∈ gw := gw_in (List.mem_of_getElem? (i := 10) (by decide +kernel)) rfl
theorem okX6_findThrows : OkM mX6_findThrows := OkM.of (lks := lks_RX6) (N := 75) lkp_RX6 rfl (by decide +kernel)
theorem oyX6_findThrows : OkY mX6_findThrows 0 := ⟨gw_in (List.mem_of_getElem? (i := 1197) (by decide +kernel)) rfl, gw_in (List.mem_of_getElem? (i := 47) (by decide +kernel)) rfl, by decide +kernel, by decide⟩
theorem iyX6_findThrows : Cond.instanceMethod yX6_findThrows ∈ gw := gw_in (List.mem_of_getElem? (i := 1196) (by decide +kernel)) rfl
theorem seX6_findThrows : Cond.selects RX6 yX6_findThrows yX6_findThrows ∈ gw := gw_in (List.mem_of_getElem? (i := 30) (by decide +kernel)) rfl
theorem okX5_need : OkM mX5_need := OkM.of (lks := lks_RX5) (N := 70) lkp_RX5 rfl (by decide +kernel)
theorem oyX5_need : OkY mX5_need 3 := ⟨gw_in (List.mem_of_getElem? (i := 499) (by decide +kernel)) rfl, gw_in (List.mem_of_getElem? (i := 41) (by decide +kernel)) rfl, by decide +kernel, by decide⟩
theorem iyX5_need : Cond.instanceMethod yX5_need ∈ gw := gw_in (List.mem_of_getElem? (i := 497) (by decide +kernel)) rfl
theorem seX5_need : Cond.selects RX5 yX5_need yX5_need ∈ gw := gw_in (List.mem_of_getElem? (i := 498) (by decide +kernel)) rfl
theorem okX5_brings : OkM mX5_brings := OkM.of (lks := lks_RX5) (N := 65) lkp_RX5 rfl (by decide +kernel)
theorem oyX5_brings : OkY mX5_brings 2 := ⟨gw_in (List.mem_of_getElem? (i := 568) (by decide +kernel)) rfl, gw_in (List.mem_of_getElem? (i := 41) (by decide +kernel)) rfl, by decide +kernel, by decide⟩
theorem iyX5_brings : Cond.instanceMethod yX5_brings ∈ gw := gw_in (List.mem_of_getElem? (i := 566) (by decide +kernel)) rfl
theorem seX5_brings : Cond.selects RX5 yX5_brings yX5_brings ∈ gw := gw_in (List.mem_of_getElem? (i := 567) (by decide +kernel)) rfl
theorem okX6_isGood : OkM mX6_isGood := OkM.of (lks := lks_RX6) (N := 60) lkp_RX6 rfl (by decide +kernel)
theorem oyX6_isGood : OkY mX6_isGood 2 := ⟨gw_in (List.mem_of_getElem? (i := 1075) (by decide +kernel)) rfl, gw_in (List.mem_of_getElem? (i := 47) (by decide +kernel)) rfl, by decide +kernel, by decide⟩
theorem syX6_isGood : Cond.static yX6_isGood ∈ gw := gw_in (List.mem_of_getElem? (i := 1074) (by decide +kernel)) rfl
theorem okX6_brings : OkM mX6_brings := OkM.of (lks := lks_RX6) (N := 59) lkp_RX6 rfl (by decide +kernel)
theorem oyX6_brings : OkY mX6_brings 2 := ⟨gw_in (List.mem_of_getElem? (i := 1162) (by decide +kernel)) rfl, gw_in (List.mem_of_getElem? (i := 47) (by decide +kernel)) rfl, by decide +kernel, by decide⟩
theorem iyX6_brings : Cond.instanceMethod yX6_brings ∈ gw := gw_in (List.mem_of_getElem? (i := 1160) (by decide +kernel)) rfl
theorem seX6_brings : Cond.selects RX6 yX6_brings yX6_brings ∈ gw := gw_in (List.mem_of_getElem? (i := 1161) (by decide +kernel)) rfl
theorem okX6_status : OkM mX6_status := OkM.of (lks := lks_RX6) (N := 57) lkp_RX6 rfl (by decide +kernel)
theorem oyX6_status : OkY mX6_status 1 := ⟨gw_in (List.mem_of_getElem? (i := 1361) (by decide +kernel)) rfl, gw_in (List.mem_of_getElem? (i := 47) (by decide +kernel)) rfl, by decide +kernel, by decide⟩
theorem iyX6_status : Cond.instanceMethod yX6_status ∈ gw := gw_in (List.mem_of_getElem? (i := 1359) (by decide +kernel)) rfl
theorem seX6_status : Cond.selects RX6 yX6_status yX6_status ∈ gw := gw_in (List.mem_of_getElem? (i := 1360) (by decide +kernel)) rfl
theorem okX5_owes : OkM mX5_owes := OkM.of (lks := lks_RX5) (N := 55) lkp_RX5 rfl (by decide +kernel)
theorem oyX5_owes : OkY mX5_owes 1 := ⟨gw_in (List.mem_of_getElem? (i := 552) (by decide +kernel)) rfl, gw_in (List.mem_of_getElem? (i := 41) (by decide +kernel)) rfl, by decide +kernel, by decide⟩
theorem iyX5_owes : Cond.instanceMethod yX5_owes ∈ gw := gw_in (List.mem_of_getElem? (i := 550) (by decide +kernel)) rfl
theorem seX5_owes : Cond.selects RX5 yX5_owes yX5_owes ∈ gw := gw_in (List.mem_of_getElem? (i := 551) (by decide +kernel)) rfl
theorem okX0_weightOfMet : OkM mX0_weightOfMet := OkM.of (lks := lks_RX0) (N := 53) lkp_RX0 rfl (by decide +kernel)
theorem oyX0_weightOfMet : OkY mX0_weightOfMet 2 := ⟨gw_in (List.mem_of_getElem? (i := 653) (by decide +kernel)) rfl, gw_in (List.mem_of_getElem? (i := 45) (by decide +kernel)) rfl, by decide +kernel, by decide⟩
theorem iyX0_weightOfMet : Cond.instanceMethod yX0_weightOfMet ∈ gw := gw_in (List.mem_of_getElem? (i := 651) (by decide +kernel)) rfl
theorem seX0_weightOfMet : Cond.selects RX0 yX0_weightOfMet yX0_weightOfMet ∈ gw := gw_in (List.mem_of_getElem? (i := 652) (by decide +kernel)) rfl
theorem okJ6_bitCount_0f7a4 : OkM mJ6_bitCount_0f7a4 := OkM.of (lks := lks_RJ6) (N := 53) lkp_RJ6 rfl (by decide +kernel)
theorem oyJ6_bitCount_0f7a4 : OkY mJ6_bitCount_0f7a4 1 := ⟨gw_in (List.mem_of_getElem? (i := 703) (by decide +kernel)) rfl, gw_in (List.mem_of_getElem? (i := 54) (by decide +kernel)) rfl, by decide +kernel, by decide⟩
theorem syJ6_bitCount_0f7a4 : Cond.static yJ6_bitCount_0f7a4 ∈ gw := gw_in (List.mem_of_getElem? (i := 702) (by decide +kernel)) rfl
theorem okX1_readItem : OkM mX1_readItem := OkM.of (lks := lks_RX1) (N := 50) lkp_RX1 rfl (by decide +kernel)
theorem oyX1_readItem : OkY mX1_readItem 0 := ⟨gw_in (List.mem_of_getElem? (i := 328) (by decide +kernel)) rfl, gw_in (List.mem_of_getElem? (i := 44) (by decide +kernel)) rfl, by decide +kernel, by decide⟩
theorem iyX1_readItem : Cond.instanceMethod yX1_readItem ∈ gw := gw_in (List.mem_of_getElem? (i := 326) (by decide +kernel)) rfl
theorem seX1_readItem : Cond.selects RX1 yX1_readItem yX1_readItem ∈ gw := gw_in (List.mem_of_getElem? (i := 327) (by decide +kernel)) rfl
theorem okX6_asks : OkM mX6_asks := OkM.of (lks := lks_RX6) (N := 50) lkp_RX6 rfl (by decide +kernel)
theorem oyX6_asks : OkY mX6_asks 1 := ⟨gw_in (List.mem_of_getElem? (i := 1291) (by decide +kernel)) rfl, gw_in (List.mem_of_getElem? (i := 47) (by decide +kernel)) rfl, by decide +kernel, by decide⟩
theorem iyX6_asks : Cond.instanceMethod yX6_asks ∈ gw := gw_in (List.mem_of_getElem? (i := 1289) (by decide +kernel)) rfl
theorem seX6_asks : Cond.selects RX6 yX6_asks yX6_asks ∈ gw := gw_in (List.mem_of_getElem? (i := 1290) (by decide +kernel)) rfl
theorem okX5_change : OkM mX5_change := OkM.of (lks := lks_RX5) (N := 47) lkp_RX5 rfl (by decide +kernel)
theorem oyX5_change : OkY mX5_change 3 := ⟨gw_in (List.mem_of_getElem? (i := 482) (by decide +kernel)) rfl, gw_in (List.mem_of_getElem? (i := 41) (by decide +kernel)) rfl, by decide +kernel, by decide⟩
theorem iyX5_change : Cond.instanceMethod yX5_change ∈ gw := gw_in (List.mem_of_getElem? (i := 480) (by decide +kernel)) rfl
theorem seX5_change : Cond.selects RX5 yX5_change yX5_change ∈ gw := gw_in (List.mem_of_getElem? (i := 481) (by decide +kernel)) rfl
theorem okX5_all : OkM mX5_all := OkM.of (lks := lks_RX5) (N := 46) lkp_RX5 rfl (by decide +kernel)
theorem oyX5_all : OkY mX5_all 2 := ⟨gw_in (List.mem_of_getElem? (i := 658) (by decide +kernel)) rfl, gw_in (List.mem_of_getElem? (i := 41) (by decide +kernel)) rfl, by decide +kernel, by decide⟩
theorem iyX5_all : Cond.instanceMethod yX5_all ∈ gw := gw_in (List.mem_of_getElem? (i := 656) (by decide +kernel)) rfl
theorem seX5_all : Cond.selects RX5 yX5_all yX5_all ∈ gw := gw_in (List.mem_of_getElem? (i := 657) (by decide +kernel)) rfl
theorem okX1_takeNumber : OkM mX1_takeNumber := OkM.of (lks := lks_RX1) (N := 45) lkp_RX1 rfl (by decide +kernel)
theorem oyX1_takeNumber : OkY mX1_takeNumber 2 := ⟨gw_in (List.mem_of_getElem? (i := 389) (by decide +kernel)) rfl, gw_in (List.mem_of_getElem? (i := 44) (by decide +kernel)) rfl, by decide +kernel, by decide⟩
theorem iyX1_takeNumber : Cond.instanceMethod yX1_takeNumber ∈ gw := gw_in (List.mem_of_getElem? (i := 387) (by decide +kernel)) rfl
theorem seX1_takeNumber : Cond.selects RX1 yX1_takeNumber yX1_takeNumber ∈ gw := gw_in (List.mem_of_getElem? (i := 388) (by decide +kernel)) rfl
theorem okX0_hangingBy : OkM mX0_hangingBy := OkM.of (lks := lks_RX0) (N := 43) lkp_RX0 rfl (by decide +kernel)
theorem oyX0_hangingBy : OkY mX0_hangingBy 1 := ⟨gw_in (List.mem_of_getElem? (i := 797) (by decide +kernel)) rfl, gw_in (List.mem_of_getElem? (i := 45) (by decide +kernel)) rfl, by decide +kernel, by decide⟩
theorem iyX0_hangingBy : Cond.instanceMethod yX0_hangingBy ∈ gw := gw_in (List.mem_of_getElem? (i := 795) (by decide +kernel)) rfl
theorem seX0_hangingBy : Cond.selects RX0 yX0_hangingBy yX0_hangingBy ∈ gw := gw_in (List.mem_of_getElem? (i := 796) (by decide +kernel)) rfl
theorem okX5_hold : OkM mX5_hold := OkM.of (lks := lks_RX5) (N := 39) lkp_RX5 rfl (by decide +kernel)
theorem oyX5_hold : OkY mX5_hold 2 := ⟨gw_in (List.mem_of_getElem? (i := 820) (by decide +kernel)) rfl, gw_in (List.mem_of_getElem? (i := 41) (by decide +kernel)) rfl, by decide +kernel, by decide⟩
theorem iyX5_hold : Cond.instanceMethod yX5_hold ∈ gw := gw_in (List.mem_of_getElem? (i := 818) (by decide +kernel)) rfl
theorem seX5_hold : Cond.selects RX5 yX5_hold yX5_hold ∈ gw := gw_in (List.mem_of_getElem? (i := 819) (by decide +kernel)) rfl
theorem okX5_isUnder : OkM mX5_isUnder := OkM.of (lks := lks_RX5) (N := 38) lkp_RX5 rfl (by decide +kernel)
theorem oyX5_isUnder : OkY mX5_isUnder 2 := ⟨gw_in (List.mem_of_getElem? (i := 831) (by decide +kernel)) rfl, gw_in (List.mem_of_getElem? (i := 41) (by decide +kernel)) rfl, by decide +kernel, by decide⟩
theorem syX5_isUnder : Cond.static yX5_isUnder ∈ gw := gw_in (List.mem_of_getElem? (i := 830) (by decide +kernel)) rfl
theorem okX4_needsMetBy : OkM mX4_needsMetBy := OkM.of (lks := lks_RX4) (N := 35) lkp_RX4 rfl (by decide +kernel)
theorem oyX4_needsMetBy : OkY mX4_needsMetBy 1 := ⟨gw_in (List.mem_of_getElem? (i := 580) (by decide +kernel)) rfl, gw_in (List.mem_of_getElem? (i := 42) (by decide +kernel)) rfl, by decide +kernel, by decide⟩
theorem iyX4_needsMetBy : Cond.instanceMethod yX4_needsMetBy ∈ gw := gw_in (List.mem_of_getElem? (i := 578) (by decide +kernel)) rfl
theorem seX4_needsMetBy : Cond.selects RX4 yX4_needsMetBy yX4_needsMetBy ∈ gw := gw_in (List.mem_of_getElem? (i := 579) (by decide +kernel)) rfl
theorem okX5_fitsPart : OkM mX5_fitsPart := OkM.of (lks := lks_RX5) (N := 32) lkp_RX5 rfl (by decide +kernel)
theorem oyX5_fitsPart : OkY mX5_fitsPart 2 := ⟨gw_in (List.mem_of_getElem? (i := 463) (by decide +kernel)) rfl, gw_in (List.mem_of_getElem? (i := 41) (by decide +kernel)) rfl, by decide +kernel, by decide⟩
theorem syX5_fitsPart : Cond.static yX5_fitsPart ∈ gw := gw_in (List.mem_of_getElem? (i := 462) (by decide +kernel)) rfl
theorem okX5_likely : OkM mX5_likely := OkM.of (lks := lks_RX5) (N := 31) lkp_RX5 rfl (by decide +kernel)
theorem oyX5_likely : OkY mX5_likely 1 := ⟨gw_in (List.mem_of_getElem? (i := 696) (by decide +kernel)) rfl, gw_in (List.mem_of_getElem? (i := 41) (by decide +kernel)) rfl, by decide +kernel, by decide⟩
theorem iyX5_likely : Cond.instanceMethod yX5_likely ∈ gw := gw_in (List.mem_of_getElem? (i := 694) (by decide +kernel)) rfl
theorem seX5_likely : Cond.selects RX5 yX5_likely yX5_likely ∈ gw := gw_in (List.mem_of_getElem? (i := 695) (by decide +kernel)) rfl
theorem okX1_kindOfWord : OkM mX1_kindOfWord := OkM.of (lks := lks_RX1) (N := 29) lkp_RX1 rfl (by decide +kernel)
theorem oyX1_kindOfWord : OkY mX1_kindOfWord 0 := ⟨gw_in (List.mem_of_getElem? (i := 419) (by decide +kernel)) rfl, gw_in (List.mem_of_getElem? (i := 44) (by decide +kernel)) rfl, by decide +kernel, by decide⟩
theorem iyX1_kindOfWord : Cond.instanceMethod yX1_kindOfWord ∈ gw := gw_in (List.mem_of_getElem? (i := 417) (by decide +kernel)) rfl
theorem seX1_kindOfWord : Cond.selects RX1 yX1_kindOfWord yX1_kindOfWord ∈ gw := gw_in (List.mem_of_getElem? (i := 418) (by decide +kernel)) rfl
theorem okX6_isSure : OkM mX6_isSure := OkM.of (lks := lks_RX6) (N := 29) lkp_RX6 rfl (by decide +kernel)
theorem oyX6_isSure : OkY mX6_isSure 4 := ⟨gw_in (List.mem_of_getElem? (i := 1263) (by decide +kernel)) rfl, gw_in (List.mem_of_getElem? (i := 47) (by decide +kernel)) rfl, by decide +kernel, by decide⟩
theorem iyX6_isSure : Cond.instanceMethod yX6_isSure ∈ gw := gw_in (List.mem_of_getElem? (i := 1262) (by decide +kernel)) rfl
theorem seX6_isSure : Cond.selects RX6 yX6_isSure yX6_isSure ∈ gw := gw_in (List.mem_of_getElem? (i := 37) (by decide +kernel)) rfl
theorem okX6_takesNumber : OkM mX6_takesNumber := OkM.of (lks := lks_RX6) (N := 25) lkp_RX6 rfl (by decide +kernel)
theorem oyX6_takesNumber : OkY mX6_takesNumber 2 := ⟨gw_in (List.mem_of_getElem? (i := 1036) (by decide +kernel)) rfl, gw_in (List.mem_of_getElem? (i := 47) (by decide +kernel)) rfl, by decide +kernel, by decide⟩
theorem iyX6_takesNumber : Cond.instanceMethod yX6_takesNumber ∈ gw := gw_in (List.mem_of_getElem? (i := 1035) (by decide +kernel)) rfl
theorem seX6_takesNumber : Cond.selects RX6 yX6_takesNumber yX6_takesNumber ∈ gw := gw_in (List.mem_of_getElem? (i := 12) (by decide +kernel)) rfl
theorem okX4_drawNext : OkM mX4_drawNext := OkM.of (lks := lks_RX4) (N := 23) lkp_RX4 rfl (by decide +kernel)
theorem oyX4_drawNext : OkY mX4_drawNext 0 := ⟨gw_in (List.mem_of_getElem? (i := 525) (by decide +kernel)) rfl, gw_in (List.mem_of_getElem? (i := 42) (by decide +kernel)) rfl, by decide +kernel, by decide⟩
theorem iyX4_drawNext : Cond.instanceMethod yX4_drawNext ∈ gw := gw_in (List.mem_of_getElem? (i := 523) (by decide +kernel)) rfl
theorem seX4_drawNext : Cond.selects RX4 yX4_drawNext yX4_drawNext ∈ gw := gw_in (List.mem_of_getElem? (i := 524) (by decide +kernel)) rfl
theorem okX6_hangs : OkM mX6_hangs := OkM.of (lks := lks_RX6) (N := 23) lkp_RX6 rfl (by decide +kernel)
theorem oyX6_hangs : OkY mX6_hangs 1 := ⟨gw_in (List.mem_of_getElem? (i := 1283) (by decide +kernel)) rfl, gw_in (List.mem_of_getElem? (i := 47) (by decide +kernel)) rfl, by decide +kernel, by decide⟩
theorem iyX6_hangs : Cond.instanceMethod yX6_hangs ∈ gw := gw_in (List.mem_of_getElem? (i := 1281) (by decide +kernel)) rfl
theorem seX6_hangs : Cond.selects RX6 yX6_hangs yX6_hangs ∈ gw := gw_in (List.mem_of_getElem? (i := 1282) (by decide +kernel)) rfl
theorem okX6_weight : OkM mX6_weight := OkM.of (lks := lks_RX6) (N := 21) lkp_RX6 rfl (by decide +kernel)
theorem oyX6_weight : OkY mX6_weight 1 := ⟨gw_in (List.mem_of_getElem? (i := 1182) (by decide +kernel)) rfl, gw_in (List.mem_of_getElem? (i := 47) (by decide +kernel)) rfl, by decide +kernel, by decide⟩
theorem iyX6_weight : Cond.instanceMethod yX6_weight ∈ gw := gw_in (List.mem_of_getElem? (i := 1180) (by decide +kernel)) rfl
theorem seX6_weight : Cond.selects RX6 yX6_weight yX6_weight ∈ gw := gw_in (List.mem_of_getElem? (i := 1181) (by decide +kernel)) rfl
theorem okJ0_isLatin1_aae02 : OkM mJ0_isLatin1_aae02 := OkM.of (lks := lks_RJ0) (N := 19) lkp_RJ0 rfl (by decide +kernel)
theorem oyJ0_isLatin1_aae02 : OkY mJ0_isLatin1_aae02 0 := ⟨gw_in (List.mem_of_getElem? (i := 351) (by decide +kernel)) rfl, gw_in (List.mem_of_getElem? (i := 50) (by decide +kernel)) rfl, by decide +kernel, by decide⟩
theorem iyJ0_isLatin1_aae02 : Cond.instanceMethod yJ0_isLatin1_aae02 ∈ gw := gw_in (List.mem_of_getElem? (i := 349) (by decide +kernel)) rfl
theorem seJ0_isLatin1_aae02 : Cond.selects RJ0 yJ0_isLatin1_aae02 yJ0_isLatin1_aae02 ∈ gw := gw_in (List.mem_of_getElem? (i := 350) (by decide +kernel)) rfl
theorem okX5_image : OkM mX5_image := OkM.of (lks := lks_RX5) (N := 18) lkp_RX5 rfl (by decide +kernel)
theorem oyX5_image : OkY mX5_image 0 := ⟨gw_in (List.mem_of_getElem? (i := 888) (by decide +kernel)) rfl, gw_in (List.mem_of_getElem? (i := 41) (by decide +kernel)) rfl, by decide +kernel, by decide⟩
theorem iyX5_image : Cond.instanceMethod yX5_image ∈ gw := gw_in (List.mem_of_getElem? (i := 886) (by decide +kernel)) rfl
theorem seX5_image : Cond.selects RX5 yX5_image yX5_image ∈ gw := gw_in (List.mem_of_getElem? (i := 887) (by decide +kernel)) rfl
theorem okX1_passWord : OkM mX1_passWord := OkM.of (lks := lks_RX1) (N := 16) lkp_RX1 rfl (by decide +kernel)
theorem oyX1_passWord : OkY mX1_passWord 1 := ⟨gw_in (List.mem_of_getElem? (i := 394) (by decide +kernel)) rfl, gw_in (List.mem_of_getElem? (i := 44) (by decide +kernel)) rfl, by decide +kernel, by decide⟩
theorem iyX1_passWord : Cond.instanceMethod yX1_passWord ∈ gw := gw_in (List.mem_of_getElem? (i := 392) (by decide +kernel)) rfl
theorem seX1_passWord : Cond.selects RX1 yX1_passWord yX1_passWord ∈ gw := gw_in (List.mem_of_getElem? (i := 393) (by decide +kernel)) rfl
theorem okX6_isSet : OkM mX6_isSet := OkM.of (lks := lks_RX6) (N := 16) lkp_RX6 rfl (by decide +kernel)
theorem oyX6_isSet : OkY mX6_isSet 1 := ⟨gw_in (List.mem_of_getElem? (i := 1150) (by decide +kernel)) rfl, gw_in (List.mem_of_getElem? (i := 47) (by decide +kernel)) rfl, by decide +kernel, by decide⟩
theorem iyX6_isSet : Cond.instanceMethod yX6_isSet ∈ gw := gw_in (List.mem_of_getElem? (i := 1149) (by decide +kernel)) rfl
theorem seX6_isSet : Cond.selects RX6 yX6_isSet yX6_isSet ∈ gw := gw_in (List.mem_of_getElem? (i := 23) (by decide +kernel)) rfl
theorem okJ0_coder_7d493 : OkM mJ0_coder_7d493 := OkM.of (lks := lks_RJ0) (N := 15) lkp_RJ0 rfl (by decide +kernel)
theorem oyJ0_coder_7d493 : OkY mJ0_coder_7d493 0 := ⟨gw_in (List.mem_of_getElem? (i := 341) (by decide +kernel)) rfl, gw_in (List.mem_of_getElem? (i := 50) (by decide +kernel)) rfl, by decide +kernel, by decide⟩
theorem iyJ0_coder_7d493 : Cond.instanceMethod yJ0_coder_7d493 ∈ gw := gw_in (List.mem_of_getElem? (i := 339) (by decide +kernel)) rfl
theorem seJ0_coder_7d493 : Cond.selects RJ0 yJ0_coder_7d493 yJ0_coder_7d493 ∈ gw := gw_in (List.mem_of_getElem? (i := 340) (by decide +kernel)) rfl
theorem okX2_isMissing : OkM mX2_isMissing := OkM.of (lks := lks_RX2) (N := 13) lkp_RX2 rfl (by decide +kernel)
theorem oyX2_isMissing : OkY mX2_isMissing 0 := ⟨gw_in (List.mem_of_getElem? (i := 856) (by decide +kernel)) rfl, gw_in (List.mem_of_getElem? (i := 46) (by decide +kernel)) rfl, by decide +kernel, by decide⟩
theorem iyX2_isMissing : Cond.instanceMethod yX2_isMissing ∈ gw := gw_in (List.mem_of_getElem? (i := 854) (by decide +kernel)) rfl
theorem seX2_isMissing : Cond.selects RX2 yX2_isMissing yX2_isMissing ∈ gw := gw_in (List.mem_of_getElem? (i := 855) (by decide +kernel)) rfl
theorem okJ9_max_7cf53 : OkM mJ9_max_7cf53 := OkM.of (lks := lks_RJ9) (N := 11) lkp_RJ9 rfl (by decide +kernel)
theorem oyJ9_max_7cf53 : OkY mJ9_max_7cf53 2 := ⟨gw_in (List.mem_of_getElem? (i := 401) (by decide +kernel)) rfl, gw_in (List.mem_of_getElem? (i := 49) (by decide +kernel)) rfl, by decide +kernel, by decide⟩
theorem syJ9_max_7cf53 : Cond.static yJ9_max_7cf53 ∈ gw := gw_in (List.mem_of_getElem? (i := 400) (by decide +kernel)) rfl
theorem okX6_isThrow : OkM mX6_isThrow := OkM.of (lks := lks_RX6) (N := 9) lkp_RX6 rfl (by decide +kernel)
theorem oyX6_isThrow : OkY mX6_isThrow 1 := ⟨gw_in (List.mem_of_getElem? (i := 1131) (by decide +kernel)) rfl, gw_in (List.mem_of_getElem? (i := 47) (by decide +kernel)) rfl, by decide +kernel, by decide⟩
theorem syX6_isThrow : Cond.static yX6_isThrow ∈ gw := gw_in (List.mem_of_getElem? (i := 1130) (by decide +kernel)) rfl
theorem okX5_isPart : OkM mX5_isPart := OkM.of (lks := lks_RX5) (N := 7) lkp_RX5 rfl (by decide +kernel)
theorem oyX5_isPart : OkY mX5_isPart 1 := ⟨gw_in (List.mem_of_getElem? (i := 600) (by decide +kernel)) rfl, gw_in (List.mem_of_getElem? (i := 41) (by decide +kernel)) rfl, by decide +kernel, by decide⟩
theorem syX5_isPart : Cond.static yX5_isPart ∈ gw := gw_in (List.mem_of_getElem? (i := 599) (by decide +kernel)) rfl
theorem okX6_isPart : OkM mX6_isPart := OkM.of (lks := lks_RX6) (N := 7) lkp_RX6 rfl (by decide +kernel)
theorem oyX6_isPart : OkY mX6_isPart 1 := ⟨gw_in (List.mem_of_getElem? (i := 1193) (by decide +kernel)) rfl, gw_in (List.mem_of_getElem? (i := 47) (by decide +kernel)) rfl, by decide +kernel, by decide⟩
theorem syX6_isPart : Cond.static yX6_isPart ∈ gw := gw_in (List.mem_of_getElem? (i := 1192) (by decide +kernel)) rfl
