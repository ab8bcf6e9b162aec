theorem nl_L_7 : NL RL 7 "FreightPaths" 8 6 := ⟨⟨TX7, rfl⟩, by decide +kernel, by decide +kernel, by decide +kernel⟩
theorem nl_L_18 : NL RL 18 "FreightPathsModel" 9 34 := ⟨⟨TX8, rfl⟩, by decide +kernel, by decide +kernel, by decide +kernel⟩
theorem me_X7_init : Cond.instanceMethod yX7_init ∈ GT ∧ Cond.initialized RX7 ∈ GT ∧ Cond.code yX7_init cX7_init 5 none ∈ GT := ⟨by decide +kernel, by decide +kernel, by decide +kernel⟩
theorem cl_L_15 : IL RL 15 yX7_init cX7_init 5 1 := ⟨⟨by decide +kernel, me_X7_init⟩, rfl, by decide, by decide, by decide +kernel⟩
theorem me_X8_init : Cond.instanceMethod yX8_init ∈ GT ∧ Cond.initialized RX8 ∈ GT ∧ Cond.code yX8_init cX8_init 3 none ∈ GT := ⟨by decide +kernel, by decide +kernel, by decide +kernel⟩
theorem cl_L_20 : IL RL 20 yX8_init cX8_init 3 1 := ⟨⟨by decide +kernel, me_X8_init⟩, rfl, by decide, by decide, by decide +kernel⟩
theorem me_X7_section : Cond.instanceMethod yX7_section ∈ GT ∧ Cond.selects RX7 yX7_section yX7_section ∈ GT ∧ Cond.initialized RX7 ∈ GT ∧ Cond.code yX7_section cX7_section 5 (some .boolean) ∈ GT := ⟨by decide +kernel, by decide +kernel, by decide +kernel, by decide +kernel⟩
theorem cl_L_21 : VL RL 21 8 yX7_section cX7_section 5 (some .boolean) 4 := ⟨⟨TX7, 6, rfl⟩, ⟨by decide +kernel, me_X7_section⟩, by decide, by decide, by decide +kernel⟩
theorem me_X8_section : Cond.instanceMethod yX8_section ∈ GT ∧ Cond.selects RX8 yX8_section yX8_section ∈ GT ∧ Cond.initialized RX8 ∈ GT ∧ Cond.code yX8_section cX8_section 6 (some .boolean) ∈ GT := ⟨by decide +kernel, by decide +kernel, by decide +kernel, by decide +kernel⟩
theorem cl_L_25 : VL RL 25 9 yX8_section cX8_section 6 (some .boolean) 4 := ⟨⟨TX8, 34, rfl⟩, ⟨by decide +kernel, me_X8_section⟩, by decide, by decide, by decide +kernel⟩
theorem me_X7_tracks : Cond.instanceMethod yX7_tracks ∈ GT ∧ Cond.selects RX7 yX7_tracks yX7_tracks ∈ GT ∧ Cond.initialized RX7 ∈ GT ∧ Cond.code yX7_tracks cX7_tracks 3 (some .boolean) ∈ GT := ⟨by decide +kernel, by decide +kernel, by decide +kernel, by decide +kernel⟩
theorem cl_L_26 : VL RL 26 8 yX7_tracks cX7_tracks 3 (some .boolean) 2 := ⟨⟨TX7, 6, rfl⟩, ⟨by decide +kernel, me_X7_tracks⟩, by decide, by decide, by decide +kernel⟩
theorem me_X8_tracks : Cond.instanceMethod yX8_tracks ∈ GT ∧ Cond.selects RX8 yX8_tracks yX8_tracks ∈ GT ∧ Cond.initialized RX8 ∈ GT ∧ Cond.code yX8_tracks cX8_tracks 3 (some .boolean) ∈ GT := ⟨by decide +kernel, by decide +kernel, by decide +kernel, by decide +kernel⟩
theorem cl_L_30 : VL RL 30 9 yX8_tracks cX8_tracks 3 (some .boolean) 2 := ⟨⟨TX8, 34, rfl⟩, ⟨by decide +kernel, me_X8_tracks⟩, by decide, by decide, by decide +kernel⟩
theorem me_X7_headway : Cond.instanceMethod yX7_headway ∈ GT ∧ Cond.selects RX7 yX7_headway yX7_headway ∈ GT ∧ Cond.initialized RX7 ∈ GT ∧ Cond.code yX7_headway cX7_headway 2 (some .boolean) ∈ GT := ⟨by decide +kernel, by decide +kernel, by decide +kernel, by decide +kernel⟩
theorem cl_L_31 : VL RL 31 8 yX7_headway cX7_headway 2 (some .boolean) 1 := ⟨⟨TX7, 6, rfl⟩, ⟨by decide +kernel, me_X7_headway⟩, by decide, by decide, by decide +kernel⟩
theorem me_X8_headway : Cond.instanceMethod yX8_headway ∈ GT ∧ Cond.selects RX8 yX8_headway yX8_headway ∈ GT ∧ Cond.initialized RX8 ∈ GT ∧ Cond.code yX8_headway cX8_headway 2 (some .boolean) ∈ GT := ⟨by decide +kernel, by decide +kernel, by decide +kernel, by decide +kernel⟩
theorem cl_L_35 : VL RL 35 9 yX8_headway cX8_headway 2 (some .boolean) 1 := ⟨⟨TX8, 34, rfl⟩, ⟨by decide +kernel, me_X8_headway⟩, by decide, by decide, by decide +kernel⟩
theorem me_X7_works : Cond.instanceMethod yX7_works ∈ GT ∧ Cond.selects RX7 yX7_works yX7_works ∈ GT ∧ Cond.initialized RX7 ∈ GT ∧ Cond.code yX7_works cX7_works 4 (some .boolean) ∈ GT := ⟨by decide +kernel, by decide +kernel, by decide +kernel, by decide +kernel⟩
theorem cl_L_36 : VL RL 36 8 yX7_works cX7_works 4 (some .boolean) 3 := ⟨⟨TX7, 6, rfl⟩, ⟨by decide +kernel, me_X7_works⟩, by decide, by decide, by decide +kernel⟩
theorem me_X8_works : Cond.instanceMethod yX8_works ∈ GT ∧ Cond.selects RX8 yX8_works yX8_works ∈ GT ∧ Cond.initialized RX8 ∈ GT ∧ Cond.code yX8_works cX8_works 4 (some .boolean) ∈ GT := ⟨by decide +kernel, by decide +kernel, by decide +kernel, by decide +kernel⟩
theorem cl_L_40 : VL RL 40 9 yX8_works cX8_works 4 (some .boolean) 3 := ⟨⟨TX8, 34, rfl⟩, ⟨by decide +kernel, me_X8_works⟩, by decide, by decide, by decide +kernel⟩
theorem me_X7_bid : Cond.instanceMethod yX7_bid ∈ GT ∧ Cond.selects RX7 yX7_bid yX7_bid ∈ GT ∧ Cond.initialized RX7 ∈ GT ∧ Cond.code yX7_bid cX7_bid 6 (some .int) ∈ GT := ⟨by decide +kernel, by decide +kernel, by decide +kernel, by decide +kernel⟩
theorem cl_L_41 : VL RL 41 8 yX7_bid cX7_bid 6 (some .int) 4 := ⟨⟨TX7, 6, rfl⟩, ⟨by decide +kernel, me_X7_bid⟩, by decide, by decide, by decide +kernel⟩
theorem me_X8_bid : Cond.instanceMethod yX8_bid ∈ GT ∧ Cond.selects RX8 yX8_bid yX8_bid ∈ GT ∧ Cond.initialized RX8 ∈ GT ∧ Cond.code yX8_bid cX8_bid 9 (some .int) ∈ GT := ⟨by decide +kernel, by decide +kernel, by decide +kernel, by decide +kernel⟩
theorem cl_L_45 : VL RL 45 9 yX8_bid cX8_bid 9 (some .int) 4 := ⟨⟨TX8, 34, rfl⟩, ⟨by decide +kernel, me_X8_bid⟩, by decide, by decide, by decide +kernel⟩
theorem me_X7_link : Cond.instanceMethod yX7_link ∈ GT ∧ Cond.selects RX7 yX7_link yX7_link ∈ GT ∧ Cond.initialized RX7 ∈ GT ∧ Cond.code yX7_link cX7_link 5 (some .boolean) ∈ GT := ⟨by decide +kernel, by decide +kernel, by decide +kernel, by decide +kernel⟩
theorem cl_L_46 : VL RL 46 8 yX7_link cX7_link 5 (some .boolean) 2 := ⟨⟨TX7, 6, rfl⟩, ⟨by decide +kernel, me_X7_link⟩, by decide, by decide, by decide +kernel⟩
theorem me_X8_link : Cond.instanceMethod yX8_link ∈ GT ∧ Cond.selects RX8 yX8_link yX8_link ∈ GT ∧ Cond.initialized RX8 ∈ GT ∧ Cond.code yX8_link cX8_link 3 (some .boolean) ∈ GT := ⟨by decide +kernel, by decide +kernel, by decide +kernel, by decide +kernel⟩
theorem cl_L_49 : VL RL 49 9 yX8_link cX8_link 3 (some .boolean) 2 := ⟨⟨TX8, 34, rfl⟩, ⟨by decide +kernel, me_X8_link⟩, by decide, by decide, by decide +kernel⟩
theorem me_X7_find : Cond.instanceMethod yX7_find ∈ GT ∧ Cond.selects RX7 yX7_find yX7_find ∈ GT ∧ Cond.initialized RX7 ∈ GT ∧ Cond.code yX7_find cX7_find 3 (some .int) ∈ GT := ⟨by decide +kernel, by decide +kernel, by decide +kernel, by decide +kernel⟩
theorem cl_L_50 : VL RL 50 8 yX7_find cX7_find 3 (some .int) 1 := ⟨⟨TX7, 6, rfl⟩, ⟨by decide +kernel, me_X7_find⟩, by decide, by decide, by decide +kernel⟩
theorem me_X8_find : Cond.instanceMethod yX8_find ∈ GT ∧ Cond.selects RX8 yX8_find yX8_find ∈ GT ∧ Cond.initialized RX8 ∈ GT ∧ Cond.code yX8_find cX8_find 2 (some .int) ∈ GT := ⟨by decide +kernel, by decide +kernel, by decide +kernel, by decide +kernel⟩
theorem cl_L_54 : VL RL 54 9 yX8_find cX8_find 2 (some .int) 1 := ⟨⟨TX8, 34, rfl⟩, ⟨by decide +kernel, me_X8_find⟩, by decide, by decide, by decide +kernel⟩
theorem me_X7_give : Cond.instanceMethod yX7_give ∈ GT ∧ Cond.selects RX7 yX7_give yX7_give ∈ GT ∧ Cond.initialized RX7 ∈ GT ∧ Cond.code yX7_give cX7_give 3 (some .boolean) ∈ GT := ⟨by decide +kernel, by decide +kernel, by decide +kernel, by decide +kernel⟩
theorem cl_L_55 : VL RL 55 8 yX7_give cX7_give 3 (some .boolean) 1 := ⟨⟨TX7, 6, rfl⟩, ⟨by decide +kernel, me_X7_give⟩, by decide, by decide, by decide +kernel⟩
theorem cl_L_58 : VL RL 58 9 yX8_give cX8_give 3 (some .boolean) 1 := ⟨⟨TX8, 34, rfl⟩, ⟨by decide +kernel, me_X8_give⟩, by decide, by decide, by decide +kernel⟩
theorem me_X7_drop : Cond.instanceMethod yX7_drop ∈ GT ∧ Cond.selects RX7 yX7_drop yX7_drop ∈ GT ∧ Cond.initialized RX7 ∈ GT ∧ Cond.code yX7_drop cX7_drop 3 (some .boolean) ∈ GT := ⟨by decide +kernel, by decide +kernel, by decide +kernel, by decide +kernel⟩
theorem cl_L_59 : VL RL 59 8 yX7_drop cX7_drop 3 (some .boolean) 1 := ⟨⟨TX7, 6, rfl⟩, ⟨by decide +kernel, me_X7_drop⟩, by decide, by decide, by decide +kernel⟩
theorem me_X8_drop : Cond.instanceMethod yX8_drop ∈ GT ∧ Cond.selects RX8 yX8_drop yX8_drop ∈ GT ∧ Cond.initialized RX8 ∈ GT ∧ Cond.code yX8_drop cX8_drop 2 (some .boolean) ∈ GT := ⟨by decide +kernel, by decide +kernel, by decide +kernel, by decide +kernel⟩
theorem cl_L_62 : VL RL 62 9 yX8_drop cX8_drop 2 (some .boolean) 1 := ⟨⟨TX8, 34, rfl⟩, ⟨by decide +kernel, me_X8_drop⟩, by decide, by decide, by decide +kernel⟩
theorem me_X7_round : Cond.instanceMethod yX7_round ∈ GT ∧ Cond.selects RX7 yX7_round yX7_round ∈ GT ∧ Cond.initialized RX7 ∈ GT ∧ Cond.code yX7_round cX7_round 1 (some .int) ∈ GT := ⟨by decide +kernel, by decide +kernel, by decide +kernel, by decide +kernel⟩
theorem cl_L_63 : VL RL 63 8 yX7_round cX7_round 1 (some .int) 0 := ⟨⟨TX7, 6, rfl⟩, ⟨by decide +kernel, me_X7_round⟩, by decide, by decide, by decide +kernel⟩
theorem me_X8_round : Cond.instanceMethod yX8_round ∈ GT ∧ Cond.selects RX8 yX8_round yX8_round ∈ GT ∧ Cond.initialized RX8 ∈ GT ∧ Cond.code yX8_round cX8_round 1 (some .int) ∈ GT := ⟨by decide +kernel, by decide +kernel, by decide +kernel, by decide +kernel⟩
theorem cl_L_67 : VL RL 67 9 yX8_round cX8_round 1 (some .int) 0 := ⟨⟨TX8, 34, rfl⟩, ⟨by decide +kernel, me_X8_round⟩, by decide, by decide, by decide +kernel⟩
theorem me_X7_best : Cond.instanceMethod yX7_best ∈ GT ∧ Cond.selects RX7 yX7_best yX7_best ∈ GT ∧ Cond.initialized RX7 ∈ GT ∧ Cond.code yX7_best cX7_best 1 (some .int) ∈ GT := ⟨by decide +kernel, by decide +kernel, by decide +kernel, by decide +kernel⟩
theorem cl_L_68 : VL RL 68 8 yX7_best cX7_best 1 (some .int) 0 := ⟨⟨TX7, 6, rfl⟩, ⟨by decide +kernel, me_X7_best⟩, by decide, by decide, by decide +kernel⟩
theorem me_X8_best : Cond.instanceMethod yX8_best ∈ GT ∧ Cond.selects RX8 yX8_best yX8_best ∈ GT ∧ Cond.initialized RX8 ∈ GT ∧ Cond.code yX8_best cX8_best 6 (some .int) ∈ GT := ⟨by decide +kernel, by decide +kernel, by decide +kernel, by decide +kernel⟩
theorem cl_L_71 : VL RL 71 9 yX8_best cX8_best 6 (some .int) 0 := ⟨⟨TX8, 34, rfl⟩, ⟨by decide +kernel, me_X8_best⟩, by decide, by decide, by decide +kernel⟩
theorem me_X7_path : Cond.instanceMethod yX7_path ∈ GT ∧ Cond.selects RX7 yX7_path yX7_path ∈ GT ∧ Cond.initialized RX7 ∈ GT ∧ Cond.code yX7_path cX7_path 5 (some .int) ∈ GT := ⟨by decide +kernel, by decide +kernel, by decide +kernel, by decide +kernel⟩
theorem cl_L_72 : VL RL 72 8 yX7_path cX7_path 5 (some .int) 2 := ⟨⟨TX7, 6, rfl⟩, ⟨by decide +kernel, me_X7_path⟩, by decide, by decide, by decide +kernel⟩
theorem me_X8_path : Cond.instanceMethod yX8_path ∈ GT ∧ Cond.selects RX8 yX8_path yX8_path ∈ GT ∧ Cond.initialized RX8 ∈ GT ∧ Cond.code yX8_path cX8_path 4 (some .int) ∈ GT := ⟨by decide +kernel, by decide +kernel, by decide +kernel, by decide +kernel⟩
theorem cl_L_76 : VL RL 76 9 yX8_path cX8_path 4 (some .int) 2 := ⟨⟨TX8, 34, rfl⟩, ⟨by decide +kernel, me_X8_path⟩, by decide, by decide, by decide +kernel⟩
theorem me_X7_why : Cond.instanceMethod yX7_why ∈ GT ∧ Cond.selects RX7 yX7_why yX7_why ∈ GT ∧ Cond.initialized RX7 ∈ GT ∧ Cond.code yX7_why cX7_why 2 (some .int) ∈ GT := ⟨by decide +kernel, by decide +kernel, by decide +kernel, by decide +kernel⟩
theorem cl_L_77 : VL RL 77 8 yX7_why cX7_why 2 (some .int) 1 := ⟨⟨TX7, 6, rfl⟩, ⟨by decide +kernel, me_X7_why⟩, by decide, by decide, by decide +kernel⟩
theorem me_X8_why : Cond.instanceMethod yX8_why ∈ GT ∧ Cond.selects RX8 yX8_why yX8_why ∈ GT ∧ Cond.initialized RX8 ∈ GT ∧ Cond.code yX8_why cX8_why 5 (some .int) ∈ GT := ⟨by decide +kernel, by decide +kernel, by decide +kernel, by decide +kernel⟩
theorem cl_L_80 : VL RL 80 9 yX8_why cX8_why 5 (some .int) 1 := ⟨⟨TX8, 34, rfl⟩, ⟨by decide +kernel, me_X8_why⟩, by decide, by decide, by decide +kernel⟩
theorem me_X7_delay : Cond.instanceMethod yX7_delay ∈ GT ∧ Cond.selects RX7 yX7_delay yX7_delay ∈ GT ∧ Cond.initialized RX7 ∈ GT ∧ Cond.code yX7_delay cX7_delay 5 (some .boolean) ∈ GT := ⟨by decide +kernel, by decide +kernel, by decide +kernel, by decide +kernel⟩
theorem cl_L_81 : VL RL 81 8 yX7_delay cX7_delay 5 (some .boolean) 3 := ⟨⟨TX7, 6, rfl⟩, ⟨by decide +kernel, me_X7_delay⟩, by decide, by decide, by decide +kernel⟩
theorem me_X8_delay : Cond.instanceMethod yX8_delay ∈ GT ∧ Cond.selects RX8 yX8_delay yX8_delay ∈ GT ∧ Cond.initialized RX8 ∈ GT ∧ Cond.code yX8_delay cX8_delay 4 (some .boolean) ∈ GT := ⟨by decide +kernel, by decide +kernel, by decide +kernel, by decide +kernel⟩
theorem cl_L_84 : VL RL 84 9 yX8_delay cX8_delay 4 (some .boolean) 3 := ⟨⟨TX8, 34, rfl⟩, ⟨by decide +kernel, me_X8_delay⟩, by decide, by decide, by decide +kernel⟩
theorem me_X7_ran : Cond.instanceMethod yX7_ran ∈ GT ∧ Cond.selects RX7 yX7_ran yX7_ran ∈ GT ∧ Cond.initialized RX7 ∈ GT ∧ Cond.code yX7_ran cX7_ran 4 (some .int) ∈ GT := ⟨by decide +kernel, by decide +kernel, by decide +kernel, by decide +kernel⟩
theorem cl_L_85 : VL RL 85 8 yX7_ran cX7_ran 4 (some .int) 2 := ⟨⟨TX7, 6, rfl⟩, ⟨by decide +kernel, me_X7_ran⟩, by decide, by decide, by decide +kernel⟩
theorem me_X8_ran : Cond.instanceMethod yX8_ran ∈ GT ∧ Cond.selects RX8 yX8_ran yX8_ran ∈ GT ∧ Cond.initialized RX8 ∈ GT ∧ Cond.code yX8_ran cX8_ran 6 (some .int) ∈ GT := ⟨by decide +kernel, by decide +kernel, by decide +kernel, by decide +kernel⟩
theorem cl_L_88 : VL RL 88 9 yX8_ran cX8_ran 6 (some .int) 2 := ⟨⟨TX8, 34, rfl⟩, ⟨by decide +kernel, me_X8_ran⟩, by decide, by decide, by decide +kernel⟩
theorem me_X7_blame : Cond.instanceMethod yX7_blame ∈ GT ∧ Cond.selects RX7 yX7_blame yX7_blame ∈ GT ∧ Cond.initialized RX7 ∈ GT ∧ Cond.code yX7_blame cX7_blame 3 (some .int) ∈ GT := ⟨by decide +kernel, by decide +kernel, by decide +kernel, by decide +kernel⟩
theorem cl_L_89 : VL RL 89 8 yX7_blame cX7_blame 3 (some .int) 2 := ⟨⟨TX7, 6, rfl⟩, ⟨by decide +kernel, me_X7_blame⟩, by decide, by decide, by decide +kernel⟩
theorem me_X8_blame : Cond.instanceMethod yX8_blame ∈ GT ∧ Cond.selects RX8 yX8_blame yX8_blame ∈ GT ∧ Cond.initialized RX8 ∈ GT ∧ Cond.code yX8_blame cX8_blame 3 (some .int) ∈ GT := ⟨by decide +kernel, by decide +kernel, by decide +kernel, by decide +kernel⟩
theorem cl_L_92 : VL RL 92 9 yX8_blame cX8_blame 3 (some .int) 2 := ⟨⟨TX8, 34, rfl⟩, ⟨by decide +kernel, me_X8_blame⟩, by decide, by decide, by decide +kernel⟩
theorem me_X7_balance : Cond.instanceMethod yX7_balance ∈ GT ∧ Cond.selects RX7 yX7_balance yX7_balance ∈ GT ∧ Cond.initialized RX7 ∈ GT ∧ Cond.code yX7_balance cX7_balance 2 (some .int) ∈ GT := ⟨by decide +kernel, by decide +kernel, by decide +kernel, by decide +kernel⟩
theorem cl_L_93 : VL RL 93 8 yX7_balance cX7_balance 2 (some .int) 1 := ⟨⟨TX7, 6, rfl⟩, ⟨by decide +kernel, me_X7_balance⟩, by decide, by decide, by decide +kernel⟩
theorem me_X8_balance : Cond.instanceMethod yX8_balance ∈ GT ∧ Cond.selects RX8 yX8_balance yX8_balance ∈ GT ∧ Cond.initialized RX8 ∈ GT ∧ Cond.code yX8_balance cX8_balance 5 (some .int) ∈ GT := ⟨by decide +kernel, by decide +kernel, by decide +kernel, by decide +kernel⟩
theorem cl_L_96 : VL RL 96 9 yX8_balance cX8_balance 5 (some .int) 1 := ⟨⟨TX8, 34, rfl⟩, ⟨by decide +kernel, me_X8_balance⟩, by decide, by decide, by decide +kernel⟩
theorem me_X7_count : Cond.instanceMethod yX7_count ∈ GT ∧ Cond.selects RX7 yX7_count yX7_count ∈ GT ∧ Cond.initialized RX7 ∈ GT ∧ Cond.code yX7_count cX7_count 2 (some .int) ∈ GT := ⟨by decide +kernel, by decide +kernel, by decide +kernel, by decide +kernel⟩
theorem cl_L_97 : VL RL 97 8 yX7_count cX7_count 2 (some .int) 1 := ⟨⟨TX7, 6, rfl⟩, ⟨by decide +kernel, me_X7_count⟩, by decide, by decide, by decide +kernel⟩
theorem cl_L_100 : VL RL 100 9 yX8_count cX8_count 4 (some .int) 1 := ⟨⟨TX8, 34, rfl⟩, ⟨by decide +kernel, me_X8_count⟩, by decide, by decide, by decide +kernel⟩
section
variable {p : Program} {l : Launch} {e : Env} {s : State} {m : MethodId} {below : List Frame} {meth : Method} {c : Code} {G : GG}
variable {b L : Nat} {xs : Nat → Int32}
def f_L_law_688 (E : Nat × Nat) (L : Nat) (xs : Nat → Int32) (k28 : Option Nat × Option Nat × Int32 × Hp → Option (Int32 × Hp)) (l1 : Option Nat) (l2 : Option Nat) (l3 : Int32) (h : Hp) : Option (Int32 × Hp) :=
k28 (l1, l2, (l3 + 5), h)
set_option maxHeartbeats 4000000 in
set_option maxRecDepth 100000 in
theorem t_L_law_688 (Z : ZZ p s m #[Value.ref b] c code RL 4 G) (hr : meth.sig.returnType = some .boolean) (hlk : meth.locks = false) (hX : va_X b L xs s s.heap) (hbl : b < s.heap.size) (hG : G.1.1 = s.heap.size) {h1 : Hp} {n : Nat} {k28 : Option Nat × Option Nat × Int32 × Hp → Option (Int32 × Hp)} (hk28 : ∀ u : Option Nat × Option Nat × Int32 × Hp, k28 u = some (1, h1) → ∀ (cells slots : Nat), cells + n * 6 ≤ 600000 → slots + n * 238 ≤ 7302250 → ∀ (H : Heap) (locs : List Loc) (ls : Array Slot), Rep G u.2.2.2 H → va_S (AA G) s.heap H locs → LV ls 4 [(0, .ref b), (1, va_rf u.1), (2, va_rf u.2.1), (3, .int u.2.2.1)] → W p l e room_1 s m #[Value.ref b] below meth c H locs (cells + 0) (slots + 0) (lw_Z below #[Value.ref b] s) (F0 m 28 ls [])) : ∀ (l1 : Option Nat) (l2 : Option Nat) (l3 : Int32) (h : Hp) (cells slots : Nat), cells + (n + 1) * 6 ≤ 600000 → slots + (n + 1) * 238 ≤ 7302250 → ∀ (H : Heap) (locs : List Loc) (ls : Array Slot), f_L_law_688 G.1.2 L xs k28 l1 l2 l3 h = some (1, h1) → Rep G h H → va_S (AA G) s.heap H locs → LV ls 4 [(0, .ref b), (1, va_rf l1), (2, va_rf l2), (3, .int l3)] → W p l e room_1 s m #[Value.ref b] below meth c H locs (cells + 6) (slots + 238) (lw_Z below #[Value.ref b] s) (F0 m 688 ls []) := by
  intro l1 l2 l3 h cells slots hcc hss H locs ls hq hR hS hl
  have hx := Z.1
  have hb := Z.2.1
  have hbA : ¬ AA G b := by unfold AA; omega
  unfold f_L_law_688 at hq
  refine xinc hx hb hl (x := l3) (v := (l3 + 5)) (lv' := [(3, .int (l3 + 5)), (0, .ref b), (1, va_rf l1), (2, va_rf l2)]) 3 rfl (by rw [show Int32.ofInt (5) = (5 : Int32) from by decide]) (by decide) dL_law_688 rfl (fun ls hl => ?_)
  refine lv_goto (tgt := 28) hx hb dL_law_691 (by decide) ?_
  exact W.widen (k := cells + 6) (n := slots + 238) (by omega) (by omega) (hk28 (l1, l2, (l3 + 5), h) hq (cells + 6) (slots + 238) (by omega) (by omega) H locs ls hR hS (hl.sub [1, 2, 3, 0] rfl))
def f_L_law_179 (E : Nat × Nat) (L : Nat) (xs : Nat → Int32) (k28 : Option Nat × Option Nat × Int32 × Hp → Option (Int32 × Hp)) (s0 : Int32) (s1 : Option Nat) (s2 : Int32) (s3 : Int32) (l1 : Option Nat) (l2 : Option Nat) (l3 : Int32) (h : Hp) : Option (Int32 × Hp) :=
ldS L xs (l3 + 3) (fun x183 =>
ldS L xs (l3 + 4) (fun x188 =>
rcv h s1 9 (fun b189 => bd (f_X8_section b189 s2 s3 x183 x188 h) (fun x189 h =>
(if s0 = x189 then
f_L_law_688 E L xs k28 l1 l2 l3 h
else
rtI 0 h)))))
set_option maxHeartbeats 4000000 in
set_option maxRecDepth 100000 in
theorem t_L_law_179 (Z : ZZ p s m #[Value.ref b] c code RL 4 G) (hr : meth.sig.returnType = some .boolean) (hlk : meth.locks = false) (hX : va_X b L xs s s.heap) (hbl : b < s.heap.size) (hG : G.1.1 = s.heap.size) {h1 : Hp} {n : Nat} {k28 : Option Nat × Option Nat × Int32 × Hp → Option (Int32 × Hp)} (hk28 : ∀ u : Option Nat × Option Nat × Int32 × Hp, k28 u = some (1, h1) → ∀ (cells slots : Nat), cells + n * 6 ≤ 600000 → slots + n * 238 ≤ 7302250 → ∀ (H : Heap) (locs : List Loc) (ls : Array Slot), Rep G u.2.2.2 H → va_S (AA G) s.heap H locs → LV ls 4 [(0, .ref b), (1, va_rf u.1), (2, va_rf u.2.1), (3, .int u.2.2.1)] → W p l e room_1 s m #[Value.ref b] below meth c H locs (cells + 0) (slots + 0) (lw_Z below #[Value.ref b] s) (F0 m 28 ls [])) : ∀ (s0 : Int32) (s1 : Option Nat) (s2 : Int32) (s3 : Int32) (l1 : Option Nat) (l2 : Option Nat) (l3 : Int32) (h : Hp) (cells slots : Nat), cells + (n + 1) * 6 ≤ 600000 → slots + (n + 1) * 238 ≤ 7302250 → ∀ (H : Heap) (locs : List Loc) (ls : Array Slot), f_L_law_179 G.1.2 L xs k28 s0 s1 s2 s3 l1 l2 l3 h = some (1, h1) → Rep G h H → va_S (AA G) s.heap H locs → LV ls 4 [(0, .ref b), (1, va_rf l1), (2, va_rf l2), (3, .int l3)] → W p l e room_1 s m #[Value.ref b] below meth c H locs (cells + 0) (slots + 0) (lw_Z below #[Value.ref b] s) (F0 m 179 ls [.int s3, .int s2, va_rf s1, .int s0]) := by
  intro s0 s1 s2 s3 l1 l2 l3 h cells slots hcc hss H locs ls hq hR hS hl
  have hx := Z.1
  have hb := Z.2.1
  have hbA : ¬ AA G b := by unfold AA; omega
  unfold f_L_law_179 at hq
  refine lv_aload_n hx hb dL_law_179 rfl (hl.at 0 rfl) ?_
  refine xiln hx hb hl (x := l3) 3 rfl dL_law_180 ?_
  refine lv_iconst (v := 3) hx hb dL_law_181 (by decide) ?_
  refine lv_iadd hx hb dL_law_182 ?_
  refine xls hx hb hX hbl hbA hS hq dL_law_183 (fun x183 hq => ?_)
  refine lv_aload_n hx hb dL_law_184 rfl (hl.at 0 rfl) ?_
  refine xiln hx hb hl (x := l3) 3 rfl dL_law_185 ?_
  refine lv_iconst (v := 4) hx hb dL_law_186 (by decide) ?_
  refine lv_iadd hx hb dL_law_187 ?_
  refine xls hx hb hX hbl hbA hS hq dL_law_188 (fun x188 hq => ?_)
  refine xcV Z hR hS hl (rest := [.int s0]) (As := [.int s2, .int s3, .int x183, .int x188]) hq cl_L_25 (fun b x h1 hc => c_X8_section l b s2 s3 x183 x188 h x h1 hc) ⟨⟨rfl, rfl⟩, (by decide), (by decide)⟩ rfl rfl (by first | decide | (simp only [List.map_cons, List.map_nil, rf_cat, ct_int, ct_ref, List.sum_cons, List.sum_nil] <;> decide)) dL_law_189 ⟨by show _ ≤ 600000; omega, by show _ ≤ 7302250; omega⟩ (fun x189 h H locs hq hR hS => ?_)
  refine xcEq hx hb hq (tgt := 688) dL_law_192 (by decide) (fun hq => ?_) (fun hq => ?_)
  · exact W.widen (k := cells + 6) (n := slots + 238) (by omega) (by omega) (t_L_law_688 Z hr hlk hX hbl hG hk28 l1 l2 l3 h cells slots hcc hss H locs ls hq hR hS (hl.sub [0, 1, 2, 3] rfl))
  refine lv_iconst (v := 0) hx hb dL_law_195 (by decide) ?_
  exact absurd hq lw_no
def f_L_law_147 (E : Nat × Nat) (L : Nat) (xs : Nat → Int32) (k28 : Option Nat × Option Nat × Int32 × Hp → Option (Int32 × Hp)) (s0 : Option Nat) (s1 : Int32) (s2 : Int32) (l1 : Option Nat) (l2 : Option Nat) (l3 : Int32) (h : Hp) : Option (Int32 × Hp) :=
ldS L xs (l3 + 3) (fun x151 =>
ldS L xs (l3 + 4) (fun x156 =>
rcv h s0 8 (fun b157 => bd (f_X7_section b157 s1 s2 x151 x156 h) (fun x157 h =>
ldS L xs (l3 + 1) (fun x165 =>
ldS L xs (l3 + 2) (fun x170 =>
(if x170 = 0 then
f_L_law_179 E L xs k28 x157 l2 x165 0 l1 l2 l3 h
else
f_L_law_179 E L xs k28 x157 l2 x165 1 l1 l2 l3 h)))))))
set_option maxHeartbeats 4000000 in
set_option maxRecDepth 100000 in
theorem t_L_law_147 (Z : ZZ p s m #[Value.ref b] c code RL 4 G) (hr : meth.sig.returnType = some .boolean) (hlk : meth.locks = false) (hX : va_X b L xs s s.heap) (hbl : b < s.heap.size) (hG : G.1.1 = s.heap.size) {h1 : Hp} {n : Nat} {k28 : Option Nat × Option Nat × Int32 × Hp → Option (Int32 × Hp)} (hk28 : ∀ u : Option Nat × Option Nat × Int32 × Hp, k28 u = some (1, h1) → ∀ (cells slots : Nat), cells + n * 6 ≤ 600000 → slots + n * 238 ≤ 7302250 → ∀ (H : Heap) (locs : List Loc) (ls : Array Slot), Rep G u.2.2.2 H → va_S (AA G) s.heap H locs → LV ls 4 [(0, .ref b), (1, va_rf u.1), (2, va_rf u.2.1), (3, .int u.2.2.1)] → W p l e room_1 s m #[Value.ref b] below meth c H locs (cells + 0) (slots + 0) (lw_Z below #[Value.ref b] s) (F0 m 28 ls [])) : ∀ (s0 : Option Nat) (s1 : Int32) (s2 : Int32) (l1 : Option Nat) (l2 : Option Nat) (l3 : Int32) (h : Hp) (cells slots : Nat), cells + (n + 1) * 6 ≤ 600000 → slots + (n + 1) * 238 ≤ 7302250 → ∀ (H : Heap) (locs : List Loc) (ls : Array Slot), f_L_law_147 G.1.2 L xs k28 s0 s1 s2 l1 l2 l3 h = some (1, h1) → Rep G h H → va_S (AA G) s.heap H locs → LV ls 4 [(0, .ref b), (1, va_rf l1), (2, va_rf l2), (3, .int l3)] → W p l e room_1 s m #[Value.ref b] below meth c H locs (cells + 0) (slots + 0) (lw_Z below #[Value.ref b] s) (F0 m 147 ls [.int s2, .int s1, va_rf s0]) := by
  intro s0 s1 s2 l1 l2 l3 h cells slots hcc hss H locs ls hq hR hS hl
  have hx := Z.1
  have hb := Z.2.1
  have hbA : ¬ AA G b := by unfold AA; omega
  unfold f_L_law_147 at hq
  refine lv_aload_n hx hb dL_law_147 rfl (hl.at 0 rfl) ?_
  refine xiln hx hb hl (x := l3) 3 rfl dL_law_148 ?_
  refine lv_iconst (v := 3) hx hb dL_law_149 (by decide) ?_
  refine lv_iadd hx hb dL_law_150 ?_
  refine xls hx hb hX hbl hbA hS hq dL_law_151 (fun x151 hq => ?_)
  refine lv_aload_n hx hb dL_law_152 rfl (hl.at 0 rfl) ?_
  refine xiln hx hb hl (x := l3) 3 rfl dL_law_153 ?_
  refine lv_iconst (v := 4) hx hb dL_law_154 (by decide) ?_
  refine lv_iadd hx hb dL_law_155 ?_
  refine xls hx hb hX hbl hbA hS hq dL_law_156 (fun x156 hq => ?_)
  refine xcV Z hR hS hl (rest := []) (As := [.int s1, .int s2, .int x151, .int x156]) hq cl_L_21 (fun b x h1 hc => c_X7_section l b s1 s2 x151 x156 h x h1 hc) ⟨⟨rfl, rfl⟩, (by decide), (by decide)⟩ rfl rfl (by first | decide | (simp only [List.map_cons, List.map_nil, rf_cat, ct_int, ct_ref, List.sum_cons, List.sum_nil] <;> decide)) dL_law_157 ⟨by show _ ≤ 600000; omega, by show _ ≤ 7302250; omega⟩ (fun x157 h H locs hq hR hS => ?_)
  refine xaln hx hb hl (x := l2) 2 rfl dL_law_160 ?_
  refine lv_aload_n hx hb dL_law_161 rfl (hl.at 0 rfl) ?_
  refine xiln hx hb hl (x := l3) 3 rfl dL_law_162 ?_
  refine lv_iconst (v := 1) hx hb dL_law_163 (by decide) ?_
  refine lv_iadd hx hb dL_law_164 ?_
  refine xls hx hb hX hbl hbA hS hq dL_law_165 (fun x165 hq => ?_)
  refine lv_aload_n hx hb dL_law_166 rfl (hl.at 0 rfl) ?_
  refine xiln hx hb hl (x := l3) 3 rfl dL_law_167 ?_
  refine lv_iconst (v := 2) hx hb dL_law_168 (by decide) ?_
  refine lv_iadd hx hb dL_law_169 ?_
  refine xls hx hb hX hbl hbA hS hq dL_law_170 (fun x170 hq => ?_)
  refine xzEq hx hb hq (tgt := 178) dL_law_171 (by decide) (fun hq => ?_) (fun hq => ?_)
  · refine lv_iconst (v := 0) hx hb dL_law_178 (by decide) ?_
    exact t_L_law_179 Z hr hlk hX hbl hG hk28 x157 l2 x165 0 l1 l2 l3 h cells slots hcc hss H locs ls hq hR hS (hl.sub [0, 1, 2, 3] rfl)
  refine lv_iconst (v := 1) hx hb dL_law_174 (by decide) ?_
  refine lv_goto (tgt := 179) hx hb dL_law_175 (by decide) ?_
  exact t_L_law_179 Z hr hlk hX hbl hG hk28 x157 l2 x165 1 l1 l2 l3 h cells slots hcc hss H locs ls hq hR hS (hl.sub [0, 1, 2, 3] rfl)
def fb_L_law_28 (E : Nat × Nat) (L : Nat) (xs : Nat → Int32) (k28 : Option Nat × Option Nat × Int32 × Hp → Option (Int32 × Hp)) (l1 : Option Nat) (l2 : Option Nat) (l3 : Int32) (h : Hp) : Option (Int32 × Hp) :=
(if ((Int32.ofNat L) - 5) < l3 then
rtI 1 h
else
ldS L xs l3 (fun x38 =>
(if (x38 &&& 31) = 0 then
ldS L xs (l3 + 1) (fun x133 =>
ldS L xs (l3 + 2) (fun x138 =>
(if x138 = 0 then
f_L_law_147 E L xs k28 l1 x133 0 l1 l2 l3 h
else
f_L_law_147 E L xs k28 l1 x133 1 l1 l2 l3 h)))
else
if (x38 &&& 31) = 1 then
ldS L xs (l3 + 1) (fun x202 =>
ldS L xs (l3 + 2) (fun x207 =>
rcv h l1 8 (fun b208 => bd (f_X7_tracks b208 x202 x207 h) (fun x208 h =>
ldS L xs (l3 + 1) (fun x216 =>
ldS L xs (l3 + 2) (fun x221 =>
rcv h l2 9 (fun b222 => bd (f_X8_tracks b222 x216 x221 h) (fun x222 h =>
(if x208 = x222 then
f_L_law_688 E L xs k28 l1 l2 l3 h
else
rtI 0 h)))))))))
else
if (x38 &&& 31) = 2 then
ldS L xs (l3 + 1) (fun x235 =>
rcv h l1 8 (fun b236 => bd (f_X7_headway b236 x235 h) (fun x236 h =>
ldS L xs (l3 + 1) (fun x244 =>
rcv h l2 9 (fun b245 => bd (f_X8_headway b245 x244 h) (fun x245 h =>
(if x236 = x245 then
f_L_law_688 E L xs k28 l1 l2 l3 h
else
rtI 0 h)))))))
else
if (x38 &&& 31) = 3 then
ldS L xs (l3 + 1) (fun x258 =>
ldS L xs (l3 + 2) (fun x263 =>
ldS L xs (l3 + 3) (fun x268 =>
rcv h l1 8 (fun b269 => bd (f_X7_works b269 x258 x263 x268 h) (fun x269 h =>
ldS L xs (l3 + 1) (fun x277 =>
ldS L xs (l3 + 2) (fun x282 =>
ldS L xs (l3 + 3) (fun x287 =>
rcv h l2 9 (fun b288 => bd (f_X8_works b288 x277 x282 x287 h) (fun x288 h =>
(if x269 = x288 then
f_L_law_688 E L xs k28 l1 l2 l3 h
else
rtI 0 h)))))))))))
else
if (x38 &&& 31) = 4 then
ldS L xs (l3 + 1) (fun x301 =>
ldS L xs (l3 + 2) (fun x306 =>
ldS L xs (l3 + 3) (fun x311 =>
ldS L xs (l3 + 4) (fun x316 =>
rcv h l1 8 (fun b317 => bd (f_X7_bid E b317 x301 x306 x311 x316 h) (fun x317 h =>
ldS L xs (l3 + 1) (fun x325 =>
ldS L xs (l3 + 2) (fun x330 =>
ldS L xs (l3 + 3) (fun x335 =>
ldS L xs (l3 + 4) (fun x340 =>
rcv h l2 9 (fun b341 => bd (f_X8_bid b341 x325 x330 x335 x340 h) (fun x341 h =>
(if x317 = x341 then
f_L_law_688 E L xs k28 l1 l2 l3 h
else
rtI 0 h)))))))))))))
else
if (x38 &&& 31) = 5 then
ldS L xs (l3 + 1) (fun x354 =>
ldS L xs (l3 + 2) (fun x359 =>
rcv h l1 8 (fun b360 => bd (f_X7_link b360 x354 x359 h) (fun x360 h =>
ldS L xs (l3 + 1) (fun x368 =>
ldS L xs (l3 + 2) (fun x373 =>
rcv h l2 9 (fun b374 => bd (f_X8_link b374 x368 x373 h) (fun x374 h =>
(if x360 = x374 then
f_L_law_688 E L xs k28 l1 l2 l3 h
else
rtI 0 h)))))))))
else
if (x38 &&& 31) = 6 then
ldS L xs (l3 + 1) (fun x387 =>
rcv h l1 8 (fun b388 => bd (f_X7_find b388 x387 h) (fun x388 h =>
ldS L xs (l3 + 1) (fun x396 =>
rcv h l2 9 (fun b397 => bd (f_X8_find b397 x396 h) (fun x397 h =>
(if x388 = x397 then
f_L_law_688 E L xs k28 l1 l2 l3 h
else
rtI 0 h)))))))
else
if (x38 &&& 31) = 7 then
ldS L xs (l3 + 1) (fun x410 =>
rcv h l1 8 (fun b411 => bd (f_X7_give b411 x410 h) (fun x411 h =>
ldS L xs (l3 + 1) (fun x419 =>
rcv h l2 9 (fun b420 => bd (f_X8_give b420 x419 h) (fun x420 h =>
(if x411 = x420 then
f_L_law_688 E L xs k28 l1 l2 l3 h
else
rtI 0 h)))))))
else
if (x38 &&& 31) = 8 then
ldS L xs (l3 + 1) (fun x433 =>
rcv h l1 8 (fun b434 => bd (f_X7_drop b434 x433 h) (fun x434 h =>
ldS L xs (l3 + 1) (fun x442 =>
rcv h l2 9 (fun b443 => bd (f_X8_drop b443 x442 h) (fun x443 h =>
(if x434 = x443 then
f_L_law_688 E L xs k28 l1 l2 l3 h
else
rtI 0 h)))))))
else
if (x38 &&& 31) = 9 then
rcv h l1 8 (fun b452 => bd (f_X7_round b452 h) (fun x452 h =>
rcv h l2 9 (fun b456 => bd (f_X8_round b456 h) (fun x456 h =>
(if x452 = x456 then
f_L_law_688 E L xs k28 l1 l2 l3 h
else
rtI 0 h)))))
else
if (x38 &&& 31) = 10 then
rcv h l1 8 (fun b465 => bd (f_X7_best b465 h) (fun x465 h =>
rcv h l2 9 (fun b469 => bd (f_X8_best b469 h) (fun x469 h =>
(if x465 = x469 then
f_L_law_688 E L xs k28 l1 l2 l3 h
else
rtI 0 h)))))
else
if (x38 &&& 31) = 11 then
ldS L xs (l3 + 1) (fun x482 =>
ldS L xs (l3 + 2) (fun x487 =>
rcv h l1 8 (fun b488 => bd (f_X7_path b488 x482 x487 h) (fun x488 h =>
ldS L xs (l3 + 1) (fun x496 =>
ldS L xs (l3 + 2) (fun x501 =>
rcv h l2 9 (fun b502 => bd (f_X8_path b502 x496 x501 h) (fun x502 h =>
(if x488 = x502 then
f_L_law_688 E L xs k28 l1 l2 l3 h
else
rtI 0 h)))))))))
else
if (x38 &&& 31) = 12 then
ldS L xs (l3 + 1) (fun x515 =>
rcv h l1 8 (fun b516 => bd (f_X7_why b516 x515 h) (fun x516 h =>
ldS L xs (l3 + 1) (fun x524 =>
rcv h l2 9 (fun b525 => bd (f_X8_why b525 x524 h) (fun x525 h =>
(if x516 = x525 then
f_L_law_688 E L xs k28 l1 l2 l3 h
else
rtI 0 h)))))))
else
if (x38 &&& 31) = 13 then
ldS L xs (l3 + 1) (fun x538 =>
ldS L xs (l3 + 2) (fun x543 =>
ldS L xs (l3 + 3) (fun x548 =>
rcv h l1 8 (fun b549 => bd (f_X7_delay b549 x538 x543 x548 h) (fun x549 h =>
ldS L xs (l3 + 1) (fun x557 =>
ldS L xs (l3 + 2) (fun x562 =>
ldS L xs (l3 + 3) (fun x567 =>
rcv h l2 9 (fun b568 => bd (f_X8_delay b568 x557 x562 x567 h) (fun x568 h =>
(if x549 = x568 then
f_L_law_688 E L xs k28 l1 l2 l3 h
else
rtI 0 h)))))))))))
else
if (x38 &&& 31) = 14 then
ldS L xs (l3 + 1) (fun x581 =>
ldS L xs (l3 + 2) (fun x586 =>
rcv h l1 8 (fun b587 => bd (f_X7_ran b587 x581 x586 h) (fun x587 h =>
ldS L xs (l3 + 1) (fun x595 =>
ldS L xs (l3 + 2) (fun x600 =>
rcv h l2 9 (fun b601 => bd (f_X8_ran b601 x595 x600 h) (fun x601 h =>
(if x587 = x601 then
f_L_law_688 E L xs k28 l1 l2 l3 h
else
rtI 0 h)))))))))
else
if (x38 &&& 31) = 15 then
ldS L xs (l3 + 1) (fun x614 =>
ldS L xs (l3 + 2) (fun x619 =>
rcv h l1 8 (fun b620 => bd (f_X7_blame b620 x614 x619 h) (fun x620 h =>
ldS L xs (l3 + 1) (fun x628 =>
ldS L xs (l3 + 2) (fun x633 =>
rcv h l2 9 (fun b634 => bd (f_X8_blame b634 x628 x633 h) (fun x634 h =>
(if x620 = x634 then
f_L_law_688 E L xs k28 l1 l2 l3 h
else
rtI 0 h)))))))))
else
if (x38 &&& 31) = 16 then
ldS L xs (l3 + 1) (fun x647 =>
rcv h l1 8 (fun b648 => bd (f_X7_balance b648 x647 h) (fun x648 h =>
ldS L xs (l3 + 1) (fun x656 =>
rcv h l2 9 (fun b657 => bd (f_X8_balance b657 x656 h) (fun x657 h =>
(if x648 = x657 then
f_L_law_688 E L xs k28 l1 l2 l3 h
else
rtI 0 h)))))))
else
if (x38 &&& 31) = 17 then
ldS L xs (l3 + 1) (fun x670 =>
rcv h l1 8 (fun b671 => bd (f_X7_count b671 x670 h) (fun x671 h =>
ldS L xs (l3 + 1) (fun x679 =>
rcv h l2 9 (fun b680 => bd (f_X8_count b680 x679 h) (fun x680 h =>
(if x671 = x680 then
f_L_law_688 E L xs k28 l1 l2 l3 h
else
rtI 0 h)))))))
else
f_L_law_688 E L xs k28 l1 l2 l3 h)))
set_option maxHeartbeats 4000000 in
set_option maxRecDepth 100000 in
theorem tb_L_law_28 (Z : ZZ p s m #[Value.ref b] c code RL 4 G) (hr : meth.sig.returnType = some .boolean) (hlk : meth.locks = false) (hX : va_X b L xs s s.heap) (hbl : b < s.heap.size) (hG : G.1.1 = s.heap.size) {h1 : Hp} {n : Nat} {k28 : Option Nat × Option Nat × Int32 × Hp → Option (Int32 × Hp)} (hk28 : ∀ u : Option Nat × Option Nat × Int32 × Hp, k28 u = some (1, h1) → ∀ (cells slots : Nat), cells + n * 6 ≤ 600000 → slots + n * 238 ≤ 7302250 → ∀ (H : Heap) (locs : List Loc) (ls : Array Slot), Rep G u.2.2.2 H → va_S (AA G) s.heap H locs → LV ls 4 [(0, .ref b), (1, va_rf u.1), (2, va_rf u.2.1), (3, .int u.2.2.1)] → W p l e room_1 s m #[Value.ref b] below meth c H locs (cells + 0) (slots + 0) (lw_Z below #[Value.ref b] s) (F0 m 28 ls [])) : ∀ (l1 : Option Nat) (l2 : Option Nat) (l3 : Int32) (h : Hp) (cells slots : Nat), cells + (n + 1) * 6 ≤ 600000 → slots + (n + 1) * 238 ≤ 7302250 → ∀ (H : Heap) (locs : List Loc) (ls : Array Slot), fb_L_law_28 G.1.2 L xs k28 l1 l2 l3 h = some (1, h1) → Rep G h H → va_S (AA G) s.heap H locs → LV ls 4 [(0, .ref b), (1, va_rf l1), (2, va_rf l2), (3, .int l3)] → W p l e room_1 s m #[Value.ref b] below meth c H locs (cells + 0) (slots + 0) (lw_Z below #[Value.ref b] s) (F0 m 28 ls []) := by
  intro l1 l2 l3 h cells slots hcc hss H locs ls hq hR hS hl
  have hx := Z.1
  have hb := Z.2.1
  have hbA : ¬ AA G b := by unfold AA; omega
  unfold fb_L_law_28 at hq
  refine xiln hx hb hl (x := l3) 3 rfl dL_law_28 ?_
  refine lv_aload_n hx hb dL_law_29 rfl (hl.at 0 rfl) ?_
  refine va_slen hx hb hX hbl hbA hS dL_law_30 ?_
  refine lv_iconst (v := 5) hx hb dL_law_31 (by decide) ?_
  refine lv_isub hx hb dL_law_32 ?_
  refine xcGt hx hb hq (tgt := 694) dL_law_33 (by decide) (fun hq => ?_) (fun hq => ?_)
  · refine lv_iconst (v := 1) hx hb dL_law_694 (by decide) ?_
    exact xlret hx hb hr hlk hG hS (by omega) (by omega) dL_law_695
  refine lv_aload_n hx hb dL_law_36 rfl (hl.at 0 rfl) ?_
  refine xiln hx hb hl (x := l3) 3 rfl dL_law_37 ?_
  refine xls hx hb hX hbl hbA hS hq dL_law_38 (fun x38 hq => ?_)
  refine lv_bipush (v := 31) hx hb dL_law_39 (by decide) ?_
  refine lv_iand hx hb dL_law_41 ?_
  by_cases e42_0 : (x38 &&& 31) = 0
  · have hq := ite_t hq e42_0
    refine lv_tableIn (x := (x38 &&& 31)) (off := 86) (tgt := 128) hx hb dL_law_42 (by rw [e42_0]; decide) (by rw [e42_0]; decide) (by rw [e42_0]; rfl) (by decide) ?_
    refine xaln hx hb hl (x := l1) 1 rfl dL_law_128 ?_
    refine lv_aload_n hx hb dL_law_129 rfl (hl.at 0 rfl) ?_
    refine xiln hx hb hl (x := l3) 3 rfl dL_law_130 ?_
    refine lv_iconst (v := 1) hx hb dL_law_131 (by decide) ?_
    refine lv_iadd hx hb dL_law_132 ?_
    refine xls hx hb hX hbl hbA hS hq dL_law_133 (fun x133 hq => ?_)
    refine lv_aload_n hx hb dL_law_134 rfl (hl.at 0 rfl) ?_
    refine xiln hx hb hl (x := l3) 3 rfl dL_law_135 ?_
    refine lv_iconst (v := 2) hx hb dL_law_136 (by decide) ?_
    refine lv_iadd hx hb dL_law_137 ?_
    refine xls hx hb hX hbl hbA hS hq dL_law_138 (fun x138 hq => ?_)
    refine xzEq hx hb hq (tgt := 146) dL_law_139 (by decide) (fun hq => ?_) (fun hq => ?_)
    · refine lv_iconst (v := 0) hx hb dL_law_146 (by decide) ?_
      exact t_L_law_147 Z hr hlk hX hbl hG hk28 l1 x133 0 l1 l2 l3 h cells slots hcc hss H locs ls hq hR hS (hl.sub [0, 1, 2, 3] rfl)
    refine lv_iconst (v := 1) hx hb dL_law_142 (by decide) ?_
    refine lv_goto (tgt := 147) hx hb dL_law_143 (by decide) ?_
    exact t_L_law_147 Z hr hlk hX hbl hG hk28 l1 x133 1 l1 l2 l3 h cells slots hcc hss H locs ls hq hR hS (hl.sub [0, 1, 2, 3] rfl)
  replace hq := ite_f hq e42_0
  by_cases e42_1 : (x38 &&& 31) = 1
  · have hq := ite_t hq e42_1
    refine lv_tableIn (x := (x38 &&& 31)) (off := 155) (tgt := 197) hx hb dL_law_42 (by rw [e42_1]; decide) (by rw [e42_1]; decide) (by rw [e42_1]; rfl) (by decide) ?_
    refine xaln hx hb hl (x := l1) 1 rfl dL_law_197 ?_
    refine lv_aload_n hx hb dL_law_198 rfl (hl.at 0 rfl) ?_
    refine xiln hx hb hl (x := l3) 3 rfl dL_law_199 ?_
    refine lv_iconst (v := 1) hx hb dL_law_200 (by decide) ?_
    refine lv_iadd hx hb dL_law_201 ?_
    refine xls hx hb hX hbl hbA hS hq dL_law_202 (fun x202 hq => ?_)
    refine lv_aload_n hx hb dL_law_203 rfl (hl.at 0 rfl) ?_
    refine xiln hx hb hl (x := l3) 3 rfl dL_law_204 ?_
    refine lv_iconst (v := 2) hx hb dL_law_205 (by decide) ?_
    refine lv_iadd hx hb dL_law_206 ?_
    refine xls hx hb hX hbl hbA hS hq dL_law_207 (fun x207 hq => ?_)
    refine xcV Z hR hS hl (rest := []) (As := [.int x202, .int x207]) hq cl_L_26 (fun b x h1 hc => c_X7_tracks l b x202 x207 h x h1 hc) ⟨⟨rfl, rfl⟩, (by decide), (by decide)⟩ rfl rfl (by first | decide | (simp only [List.map_cons, List.map_nil, rf_cat, ct_int, ct_ref, List.sum_cons, List.sum_nil] <;> decide)) dL_law_208 ⟨by show _ ≤ 600000; omega, by show _ ≤ 7302250; omega⟩ (fun x208 h H locs hq hR hS => ?_)
    refine xaln hx hb hl (x := l2) 2 rfl dL_law_211 ?_
    refine lv_aload_n hx hb dL_law_212 rfl (hl.at 0 rfl) ?_
    refine xiln hx hb hl (x := l3) 3 rfl dL_law_213 ?_
    refine lv_iconst (v := 1) hx hb dL_law_214 (by decide) ?_
    refine lv_iadd hx hb dL_law_215 ?_
    refine xls hx hb hX hbl hbA hS hq dL_law_216 (fun x216 hq => ?_)
    refine lv_aload_n hx hb dL_law_217 rfl (hl.at 0 rfl) ?_
    refine xiln hx hb hl (x := l3) 3 rfl dL_law_218 ?_
    refine lv_iconst (v := 2) hx hb dL_law_219 (by decide) ?_
    refine lv_iadd hx hb dL_law_220 ?_
    refine xls hx hb hX hbl hbA hS hq dL_law_221 (fun x221 hq => ?_)
    refine xcV Z hR hS hl (rest := [.int x208]) (As := [.int x216, .int x221]) hq cl_L_30 (fun b x h1 hc => c_X8_tracks l b x216 x221 h x h1 hc) ⟨⟨rfl, rfl⟩, (by decide), (by decide)⟩ rfl rfl (by first | decide | (simp only [List.map_cons, List.map_nil, rf_cat, ct_int, ct_ref, List.sum_cons, List.sum_nil] <;> decide)) dL_law_222 ⟨by show _ ≤ 600000; omega, by show _ ≤ 7302250; omega⟩ (fun x222 h H locs hq hR hS => ?_)
    refine xcEq hx hb hq (tgt := 688) dL_law_225 (by decide) (fun hq => ?_) (fun hq => ?_)
    · exact W.widen (k := cells + 6) (n := slots + 238) (by omega) (by omega) (t_L_law_688 Z hr hlk hX hbl hG hk28 l1 l2 l3 h cells slots hcc hss H locs ls hq hR hS (hl.sub [0, 1, 2, 3] rfl))
    refine lv_iconst (v := 0) hx hb dL_law_228 (by decide) ?_
    exact absurd hq lw_no
  replace hq := ite_f hq e42_1
  by_cases e42_2 : (x38 &&& 31) = 2
  · have hq := ite_t hq e42_2
    refine lv_tableIn (x := (x38 &&& 31)) (off := 188) (tgt := 230) hx hb dL_law_42 (by rw [e42_2]; decide) (by rw [e42_2]; decide) (by rw [e42_2]; rfl) (by decide) ?_
    refine xaln hx hb hl (x := l1) 1 rfl dL_law_230 ?_
    refine lv_aload_n hx hb dL_law_231 rfl (hl.at 0 rfl) ?_
    refine xiln hx hb hl (x := l3) 3 rfl dL_law_232 ?_
    refine lv_iconst (v := 1) hx hb dL_law_233 (by decide) ?_
    refine lv_iadd hx hb dL_law_234 ?_
    refine xls hx hb hX hbl hbA hS hq dL_law_235 (fun x235 hq => ?_)
    refine xcV Z hR hS hl (rest := []) (As := [.int x235]) hq cl_L_31 (fun b x h1 hc => c_X7_headway l b x235 h x h1 hc) ⟨⟨rfl, rfl⟩, (by decide), (by decide)⟩ rfl rfl (by first | decide | (simp only [List.map_cons, List.map_nil, rf_cat, ct_int, ct_ref, List.sum_cons, List.sum_nil] <;> decide)) dL_law_236 ⟨by show _ ≤ 600000; omega, by show _ ≤ 7302250; omega⟩ (fun x236 h H locs hq hR hS => ?_)
    refine xaln hx hb hl (x := l2) 2 rfl dL_law_239 ?_
    refine lv_aload_n hx hb dL_law_240 rfl (hl.at 0 rfl) ?_
    refine xiln hx hb hl (x := l3) 3 rfl dL_law_241 ?_
    refine lv_iconst (v := 1) hx hb dL_law_242 (by decide) ?_
    refine lv_iadd hx hb dL_law_243 ?_
    refine xls hx hb hX hbl hbA hS hq dL_law_244 (fun x244 hq => ?_)
    refine xcV Z hR hS hl (rest := [.int x236]) (As := [.int x244]) hq cl_L_35 (fun b x h1 hc => c_X8_headway l b x244 h x h1 hc) ⟨⟨rfl, rfl⟩, (by decide), (by decide)⟩ rfl rfl (by first | decide | (simp only [List.map_cons, List.map_nil, rf_cat, ct_int, ct_ref, List.sum_cons, List.sum_nil] <;> decide)) dL_law_245 ⟨by show _ ≤ 600000; omega, by show _ ≤ 7302250; omega⟩ (fun x245 h H locs hq hR hS => ?_)
    refine xcEq hx hb hq (tgt := 688) dL_law_248 (by decide) (fun hq => ?_) (fun hq => ?_)
    · exact W.widen (k := cells + 6) (n := slots + 238) (by omega) (by omega) (t_L_law_688 Z hr hlk hX hbl hG hk28 l1 l2 l3 h cells slots hcc hss H locs ls hq hR hS (hl.sub [0, 1, 2, 3] rfl))
    refine lv_iconst (v := 0) hx hb dL_law_251 (by decide) ?_
    exact absurd hq lw_no
  replace hq := ite_f hq e42_2
  by_cases e42_3 : (x38 &&& 31) = 3
  · have hq := ite_t hq e42_3
    refine lv_tableIn (x := (x38 &&& 31)) (off := 211) (tgt := 253) hx hb dL_law_42 (by rw [e42_3]; decide) (by rw [e42_3]; decide) (by rw [e42_3]; rfl) (by decide) ?_
    refine xaln hx hb hl (x := l1) 1 rfl dL_law_253 ?_
    refine lv_aload_n hx hb dL_law_254 rfl (hl.at 0 rfl) ?_
    refine xiln hx hb hl (x := l3) 3 rfl dL_law_255 ?_
    refine lv_iconst (v := 1) hx hb dL_law_256 (by decide) ?_
    refine lv_iadd hx hb dL_law_257 ?_
    refine xls hx hb hX hbl hbA hS hq dL_law_258 (fun x258 hq => ?_)
    refine lv_aload_n hx hb dL_law_259 rfl (hl.at 0 rfl) ?_
    refine xiln hx hb hl (x := l3) 3 rfl dL_law_260 ?_
    refine lv_iconst (v := 2) hx hb dL_law_261 (by decide) ?_
    refine lv_iadd hx hb dL_law_262 ?_
    refine xls hx hb hX hbl hbA hS hq dL_law_263 (fun x263 hq => ?_)
    refine lv_aload_n hx hb dL_law_264 rfl (hl.at 0 rfl) ?_
    refine xiln hx hb hl (x := l3) 3 rfl dL_law_265 ?_
    refine lv_iconst (v := 3) hx hb dL_law_266 (by decide) ?_
    refine lv_iadd hx hb dL_law_267 ?_
    refine xls hx hb hX hbl hbA hS hq dL_law_268 (fun x268 hq => ?_)
    refine xcV Z hR hS hl (rest := []) (As := [.int x258, .int x263, .int x268]) hq cl_L_36 (fun b x h1 hc => c_X7_works l b x258 x263 x268 h x h1 hc) ⟨⟨rfl, rfl⟩, (by decide), (by decide)⟩ rfl rfl (by first | decide | (simp only [List.map_cons, List.map_nil, rf_cat, ct_int, ct_ref, List.sum_cons, List.sum_nil] <;> decide)) dL_law_269 ⟨by show _ ≤ 600000; omega, by show _ ≤ 7302250; omega⟩ (fun x269 h H locs hq hR hS => ?_)
    refine xaln hx hb hl (x := l2) 2 rfl dL_law_272 ?_
    refine lv_aload_n hx hb dL_law_273 rfl (hl.at 0 rfl) ?_
    refine xiln hx hb hl (x := l3) 3 rfl dL_law_274 ?_
    refine lv_iconst (v := 1) hx hb dL_law_275 (by decide) ?_
    refine lv_iadd hx hb dL_law_276 ?_
    refine xls hx hb hX hbl hbA hS hq dL_law_277 (fun x277 hq => ?_)
    refine lv_aload_n hx hb dL_law_278 rfl (hl.at 0 rfl) ?_
    refine xiln hx hb hl (x := l3) 3 rfl dL_law_279 ?_
    refine lv_iconst (v := 2) hx hb dL_law_280 (by decide) ?_
    refine lv_iadd hx hb dL_law_281 ?_
    refine xls hx hb hX hbl hbA hS hq dL_law_282 (fun x282 hq => ?_)
    refine lv_aload_n hx hb dL_law_283 rfl (hl.at 0 rfl) ?_
    refine xiln hx hb hl (x := l3) 3 rfl dL_law_284 ?_
    refine lv_iconst (v := 3) hx hb dL_law_285 (by decide) ?_
    refine lv_iadd hx hb dL_law_286 ?_
    refine xls hx hb hX hbl hbA hS hq dL_law_287 (fun x287 hq => ?_)
    refine xcV Z hR hS hl (rest := [.int x269]) (As := [.int x277, .int x282, .int x287]) hq cl_L_40 (fun b x h1 hc => c_X8_works l b x277 x282 x287 h x h1 hc) ⟨⟨rfl, rfl⟩, (by decide), (by decide)⟩ rfl rfl (by first | decide | (simp only [List.map_cons, List.map_nil, rf_cat, ct_int, ct_ref, List.sum_cons, List.sum_nil] <;> decide)) dL_law_288 ⟨by show _ ≤ 600000; omega, by show _ ≤ 7302250; omega⟩ (fun x288 h H locs hq hR hS => ?_)
    refine xcEq hx hb hq (tgt := 688) dL_law_291 (by decide) (fun hq => ?_) (fun hq => ?_)
    · exact W.widen (k := cells + 6) (n := slots + 238) (by omega) (by omega) (t_L_law_688 Z hr hlk hX hbl hG hk28 l1 l2 l3 h cells slots hcc hss H locs ls hq hR hS (hl.sub [0, 1, 2, 3] rfl))
    refine lv_iconst (v := 0) hx hb dL_law_294 (by decide) ?_
    exact absurd hq lw_no
  replace hq := ite_f hq e42_3
  by_cases e42_4 : (x38 &&& 31) = 4
  · have hq := ite_t hq e42_4
    refine lv_tableIn (x := (x38 &&& 31)) (off := 254) (tgt := 296) hx hb dL_law_42 (by rw [e42_4]; decide) (by rw [e42_4]; decide) (by rw [e42_4]; rfl) (by decide) ?_
    refine xaln hx hb hl (x := l1) 1 rfl dL_law_296 ?_
    refine lv_aload_n hx hb dL_law_297 rfl (hl.at 0 rfl) ?_
    refine xiln hx hb hl (x := l3) 3 rfl dL_law_298 ?_
    refine lv_iconst (v := 1) hx hb dL_law_299 (by decide) ?_
    refine lv_iadd hx hb dL_law_300 ?_
    refine xls hx hb hX hbl hbA hS hq dL_law_301 (fun x301 hq => ?_)
    refine lv_aload_n hx hb dL_law_302 rfl (hl.at 0 rfl) ?_
    refine xiln hx hb hl (x := l3) 3 rfl dL_law_303 ?_
    refine lv_iconst (v := 2) hx hb dL_law_304 (by decide) ?_
    refine lv_iadd hx hb dL_law_305 ?_
    refine xls hx hb hX hbl hbA hS hq dL_law_306 (fun x306 hq => ?_)
    refine lv_aload_n hx hb dL_law_307 rfl (hl.at 0 rfl) ?_
    refine xiln hx hb hl (x := l3) 3 rfl dL_law_308 ?_
    refine lv_iconst (v := 3) hx hb dL_law_309 (by decide) ?_
    refine lv_iadd hx hb dL_law_310 ?_
    refine xls hx hb hX hbl hbA hS hq dL_law_311 (fun x311 hq => ?_)
    refine lv_aload_n hx hb dL_law_312 rfl (hl.at 0 rfl) ?_
    refine xiln hx hb hl (x := l3) 3 rfl dL_law_313 ?_
    refine lv_iconst (v := 4) hx hb dL_law_314 (by decide) ?_
    refine lv_iadd hx hb dL_law_315 ?_
    refine xls hx hb hX hbl hbA hS hq dL_law_316 (fun x316 hq => ?_)
    refine xcV Z hR hS hl (rest := []) (As := [.int x301, .int x306, .int x311, .int x316]) hq cl_L_41 (fun b x h1 hc => c_X7_bid l b x301 x306 x311 x316 h x h1 hc) ⟨⟨rfl, rfl⟩, (by decide), (by decide)⟩ rfl rfl (by first | decide | (simp only [List.map_cons, List.map_nil, rf_cat, ct_int, ct_ref, List.sum_cons, List.sum_nil] <;> decide)) dL_law_317 ⟨by show _ ≤ 600000; omega, by show _ ≤ 7302250; omega⟩ (fun x317 h H locs hq hR hS => ?_)
    refine xaln hx hb hl (x := l2) 2 rfl dL_law_320 ?_
    refine lv_aload_n hx hb dL_law_321 rfl (hl.at 0 rfl) ?_
    refine xiln hx hb hl (x := l3) 3 rfl dL_law_322 ?_
    refine lv_iconst (v := 1) hx hb dL_law_323 (by decide) ?_
    refine lv_iadd hx hb dL_law_324 ?_
    refine xls hx hb hX hbl hbA hS hq dL_law_325 (fun x325 hq => ?_)
    refine lv_aload_n hx hb dL_law_326 rfl (hl.at 0 rfl) ?_
    refine xiln hx hb hl (x := l3) 3 rfl dL_law_327 ?_
    refine lv_iconst (v := 2) hx hb dL_law_328 (by decide) ?_
    refine lv_iadd hx hb dL_law_329 ?_
    refine xls hx hb hX hbl hbA hS hq dL_law_330 (fun x330 hq => ?_)
    refine lv_aload_n hx hb dL_law_331 rfl (hl.at 0 rfl) ?_
    refine xiln hx hb hl (x := l3) 3 rfl dL_law_332 ?_
    refine lv_iconst (v := 3) hx hb dL_law_333 (by decide) ?_
    refine lv_iadd hx hb dL_law_334 ?_
    refine xls hx hb hX hbl hbA hS hq dL_law_335 (fun x335 hq => ?_)
    refine lv_aload_n hx hb dL_law_336 rfl (hl.at 0 rfl) ?_
    refine xiln hx hb hl (x := l3) 3 rfl dL_law_337 ?_
    refine lv_iconst (v := 4) hx hb dL_law_338 (by decide) ?_
    refine lv_iadd hx hb dL_law_339 ?_
    refine xls hx hb hX hbl hbA hS hq dL_law_340 (fun x340 hq => ?_)
    refine xcV Z hR hS hl (rest := [.int x317]) (As := [.int x325, .int x330, .int x335, .int x340]) hq cl_L_45 (fun b x h1 hc => c_X8_bid l b x325 x330 x335 x340 h x h1 hc) ⟨⟨rfl, rfl⟩, (by decide), (by decide)⟩ rfl rfl (by first | decide | (simp only [List.map_cons, List.map_nil, rf_cat, ct_int, ct_ref, List.sum_cons, List.sum_nil] <;> decide)) dL_law_341 ⟨by show _ ≤ 600000; omega, by show _ ≤ 7302250; omega⟩ (fun x341 h H locs hq hR hS => ?_)
    refine xcEq hx hb hq (tgt := 688) dL_law_344 (by decide) (fun hq => ?_) (fun hq => ?_)
    · exact t_L_law_688 Z hr hlk hX hbl hG hk28 l1 l2 l3 h cells slots hcc hss H locs ls hq hR hS (hl.sub [0, 1, 2, 3] rfl)
    refine lv_iconst (v := 0) hx hb dL_law_347 (by decide) ?_
    exact absurd hq lw_no
  replace hq := ite_f hq e42_4
  by_cases e42_5 : (x38 &&& 31) = 5
  · have hq := ite_t hq e42_5
    refine lv_tableIn (x := (x38 &&& 31)) (off := 307) (tgt := 349) hx hb dL_law_42 (by rw [e42_5]; decide) (by rw [e42_5]; decide) (by rw [e42_5]; rfl) (by decide) ?_
    refine xaln hx hb hl (x := l1) 1 rfl dL_law_349 ?_
    refine lv_aload_n hx hb dL_law_350 rfl (hl.at 0 rfl) ?_
    refine xiln hx hb hl (x := l3) 3 rfl dL_law_351 ?_
    refine lv_iconst (v := 1) hx hb dL_law_352 (by decide) ?_
    refine lv_iadd hx hb dL_law_353 ?_
    refine xls hx hb hX hbl hbA hS hq dL_law_354 (fun x354 hq => ?_)
    refine lv_aload_n hx hb dL_law_355 rfl (hl.at 0 rfl) ?_
    refine xiln hx hb hl (x := l3) 3 rfl dL_law_356 ?_
    refine lv_iconst (v := 2) hx hb dL_law_357 (by decide) ?_
    refine lv_iadd hx hb dL_law_358 ?_
    refine xls hx hb hX hbl hbA hS hq dL_law_359 (fun x359 hq => ?_)
    refine xcV Z hR hS hl (rest := []) (As := [.int x354, .int x359]) hq cl_L_46 (fun b x h1 hc => c_X7_link l b x354 x359 h x h1 hc) ⟨⟨rfl, rfl⟩, (by decide), (by decide)⟩ rfl rfl (by first | decide | (simp only [List.map_cons, List.map_nil, rf_cat, ct_int, ct_ref, List.sum_cons, List.sum_nil] <;> decide)) dL_law_360 ⟨by show _ ≤ 600000; omega, by show _ ≤ 7302250; omega⟩ (fun x360 h H locs hq hR hS => ?_)
    refine xaln hx hb hl (x := l2) 2 rfl dL_law_363 ?_
    refine lv_aload_n hx hb dL_law_364 rfl (hl.at 0 rfl) ?_
    refine xiln hx hb hl (x := l3) 3 rfl dL_law_365 ?_
    refine lv_iconst (v := 1) hx hb dL_law_366 (by decide) ?_
    refine lv_iadd hx hb dL_law_367 ?_
    refine xls hx hb hX hbl hbA hS hq dL_law_368 (fun x368 hq => ?_)
    refine lv_aload_n hx hb dL_law_369 rfl (hl.at 0 rfl) ?_
    refine xiln hx hb hl (x := l3) 3 rfl dL_law_370 ?_
    refine lv_iconst (v := 2) hx hb dL_law_371 (by decide) ?_
    refine lv_iadd hx hb dL_law_372 ?_
    refine xls hx hb hX hbl hbA hS hq dL_law_373 (fun x373 hq => ?_)
    refine xcV Z hR hS hl (rest := [.int x360]) (As := [.int x368, .int x373]) hq cl_L_49 (fun b x h1 hc => c_X8_link l b x368 x373 h x h1 hc) ⟨⟨rfl, rfl⟩, (by decide), (by decide)⟩ rfl rfl (by first | decide | (simp only [List.map_cons, List.map_nil, rf_cat, ct_int, ct_ref, List.sum_cons, List.sum_nil] <;> decide)) dL_law_374 ⟨by show _ ≤ 600000; omega, by show _ ≤ 7302250; omega⟩ (fun x374 h H locs hq hR hS => ?_)
    refine xcEq hx hb hq (tgt := 688) dL_law_377 (by decide) (fun hq => ?_) (fun hq => ?_)
    · exact W.widen (k := cells + 6) (n := slots + 238) (by omega) (by omega) (t_L_law_688 Z hr hlk hX hbl hG hk28 l1 l2 l3 h cells slots hcc hss H locs ls hq hR hS (hl.sub [0, 1, 2, 3] rfl))
    refine lv_iconst (v := 0) hx hb dL_law_380 (by decide) ?_
    exact absurd hq lw_no
  replace hq := ite_f hq e42_5
  by_cases e42_6 : (x38 &&& 31) = 6
  · have hq := ite_t hq e42_6
    refine lv_tableIn (x := (x38 &&& 31)) (off := 340) (tgt := 382) hx hb dL_law_42 (by rw [e42_6]; decide) (by rw [e42_6]; decide) (by rw [e42_6]; rfl) (by decide) ?_
    refine xaln hx hb hl (x := l1) 1 rfl dL_law_382 ?_
    refine lv_aload_n hx hb dL_law_383 rfl (hl.at 0 rfl) ?_
    refine xiln hx hb hl (x := l3) 3 rfl dL_law_384 ?_
    refine lv_iconst (v := 1) hx hb dL_law_385 (by decide) ?_
    refine lv_iadd hx hb dL_law_386 ?_
    refine xls hx hb hX hbl hbA hS hq dL_law_387 (fun x387 hq => ?_)
    refine xcV Z hR hS hl (rest := []) (As := [.int x387]) hq cl_L_50 (fun b x h1 hc => c_X7_find l b x387 h x h1 hc) ⟨⟨rfl, rfl⟩, (by decide), (by decide)⟩ rfl rfl (by first | decide | (simp only [List.map_cons, List.map_nil, rf_cat, ct_int, ct_ref, List.sum_cons, List.sum_nil] <;> decide)) dL_law_388 ⟨by show _ ≤ 600000; omega, by show _ ≤ 7302250; omega⟩ (fun x388 h H locs hq hR hS => ?_)
    refine xaln hx hb hl (x := l2) 2 rfl dL_law_391 ?_
    refine lv_aload_n hx hb dL_law_392 rfl (hl.at 0 rfl) ?_
    refine xiln hx hb hl (x := l3) 3 rfl dL_law_393 ?_
    refine lv_iconst (v := 1) hx hb dL_law_394 (by decide) ?_
    refine lv_iadd hx hb dL_law_395 ?_
    refine xls hx hb hX hbl hbA hS hq dL_law_396 (fun x396 hq => ?_)
    refine xcV Z hR hS hl (rest := [.int x388]) (As := [.int x396]) hq cl_L_54 (fun b x h1 hc => c_X8_find l b x396 h x h1 hc) ⟨⟨rfl, rfl⟩, (by decide), (by decide)⟩ rfl rfl (by first | decide | (simp only [List.map_cons, List.map_nil, rf_cat, ct_int, ct_ref, List.sum_cons, List.sum_nil] <;> decide)) dL_law_397 ⟨by show _ ≤ 600000; omega, by show _ ≤ 7302250; omega⟩ (fun x397 h H locs hq hR hS => ?_)
    refine xcEq hx hb hq (tgt := 688) dL_law_400 (by decide) (fun hq => ?_) (fun hq => ?_)
    · exact W.widen (k := cells + 6) (n := slots + 238) (by omega) (by omega) (t_L_law_688 Z hr hlk hX hbl hG hk28 l1 l2 l3 h cells slots hcc hss H locs ls hq hR hS (hl.sub [0, 1, 2, 3] rfl))
    refine lv_iconst (v := 0) hx hb dL_law_403 (by decide) ?_
    exact absurd hq lw_no
  replace hq := ite_f hq e42_6
  by_cases e42_7 : (x38 &&& 31) = 7
  · have hq := ite_t hq e42_7
    refine lv_tableIn (x := (x38 &&& 31)) (off := 363) (tgt := 405) hx hb dL_law_42 (by rw [e42_7]; decide) (by rw [e42_7]; decide) (by rw [e42_7]; rfl) (by decide) ?_
    refine xaln hx hb hl (x := l1) 1 rfl dL_law_405 ?_
    refine lv_aload_n hx hb dL_law_406 rfl (hl.at 0 rfl) ?_
    refine xiln hx hb hl (x := l3) 3 rfl dL_law_407 ?_
    refine lv_iconst (v := 1) hx hb dL_law_408 (by decide) ?_
    refine lv_iadd hx hb dL_law_409 ?_
    refine xls hx hb hX hbl hbA hS hq dL_law_410 (fun x410 hq => ?_)
    refine xcV Z hR hS hl (rest := []) (As := [.int x410]) hq cl_L_55 (fun b x h1 hc => c_X7_give l b x410 h x h1 hc) ⟨⟨rfl, rfl⟩, (by decide), (by decide)⟩ rfl rfl (by first | decide | (simp only [List.map_cons, List.map_nil, rf_cat, ct_int, ct_ref, List.sum_cons, List.sum_nil] <;> decide)) dL_law_411 ⟨by show _ ≤ 600000; omega, by show _ ≤ 7302250; omega⟩ (fun x411 h H locs hq hR hS => ?_)
    refine xaln hx hb hl (x := l2) 2 rfl dL_law_414 ?_
    refine lv_aload_n hx hb dL_law_415 rfl (hl.at 0 rfl) ?_
    refine xiln hx hb hl (x := l3) 3 rfl dL_law_416 ?_
    refine lv_iconst (v := 1) hx hb dL_law_417 (by decide) ?_
    refine lv_iadd hx hb dL_law_418 ?_
    refine xls hx hb hX hbl hbA hS hq dL_law_419 (fun x419 hq => ?_)
    refine xcV Z hR hS hl (rest := [.int x411]) (As := [.int x419]) hq cl_L_58 (fun b x h1 hc => c_X8_give l b x419 h x h1 hc) ⟨⟨rfl, rfl⟩, (by decide), (by decide)⟩ rfl rfl (by first | decide | (simp only [List.map_cons, List.map_nil, rf_cat, ct_int, ct_ref, List.sum_cons, List.sum_nil] <;> decide)) dL_law_420 ⟨by show _ ≤ 600000; omega, by show _ ≤ 7302250; omega⟩ (fun x420 h H locs hq hR hS => ?_)
    refine xcEq hx hb hq (tgt := 688) dL_law_423 (by decide) (fun hq => ?_) (fun hq => ?_)
    · exact W.widen (k := cells + 6) (n := slots + 238) (by omega) (by omega) (t_L_law_688 Z hr hlk hX hbl hG hk28 l1 l2 l3 h cells slots hcc hss H locs ls hq hR hS (hl.sub [0, 1, 2, 3] rfl))
    refine lv_iconst (v := 0) hx hb dL_law_426 (by decide) ?_
    exact absurd hq lw_no
  replace hq := ite_f hq e42_7
  by_cases e42_8 : (x38 &&& 31) = 8
  · have hq := ite_t hq e42_8
    refine lv_tableIn (x := (x38 &&& 31)) (off := 386) (tgt := 428) hx hb dL_law_42 (by rw [e42_8]; decide) (by rw [e42_8]; decide) (by rw [e42_8]; rfl) (by decide) ?_
    refine xaln hx hb hl (x := l1) 1 rfl dL_law_428 ?_
    refine lv_aload_n hx hb dL_law_429 rfl (hl.at 0 rfl) ?_
    refine xiln hx hb hl (x := l3) 3 rfl dL_law_430 ?_
    refine lv_iconst (v := 1) hx hb dL_law_431 (by decide) ?_
    refine lv_iadd hx hb dL_law_432 ?_
    refine xls hx hb hX hbl hbA hS hq dL_law_433 (fun x433 hq => ?_)
    refine xcV Z hR hS hl (rest := []) (As := [.int x433]) hq cl_L_59 (fun b x h1 hc => c_X7_drop l b x433 h x h1 hc) ⟨⟨rfl, rfl⟩, (by decide), (by decide)⟩ rfl rfl (by first | decide | (simp only [List.map_cons, List.map_nil, rf_cat, ct_int, ct_ref, List.sum_cons, List.sum_nil] <;> decide)) dL_law_434 ⟨by show _ ≤ 600000; omega, by show _ ≤ 7302250; omega⟩ (fun x434 h H locs hq hR hS => ?_)
    refine xaln hx hb hl (x := l2) 2 rfl dL_law_437 ?_
    refine lv_aload_n hx hb dL_law_438 rfl (hl.at 0 rfl) ?_
    refine xiln hx hb hl (x := l3) 3 rfl dL_law_439 ?_
    refine lv_iconst (v := 1) hx hb dL_law_440 (by decide) ?_
    refine lv_iadd hx hb dL_law_441 ?_
    refine xls hx hb hX hbl hbA hS hq dL_law_442 (fun x442 hq => ?_)
    refine xcV Z hR hS hl (rest := [.int x434]) (As := [.int x442]) hq cl_L_62 (fun b x h1 hc => c_X8_drop l b x442 h x h1 hc) ⟨⟨rfl, rfl⟩, (by decide), (by decide)⟩ rfl rfl (by first | decide | (simp only [List.map_cons, List.map_nil, rf_cat, ct_int, ct_ref, List.sum_cons, List.sum_nil] <;> decide)) dL_law_443 ⟨by show _ ≤ 600000; omega, by show _ ≤ 7302250; omega⟩ (fun x443 h H locs hq hR hS => ?_)
    refine xcEq hx hb hq (tgt := 688) dL_law_446 (by decide) (fun hq => ?_) (fun hq => ?_)
    · exact W.widen (k := cells + 6) (n := slots + 238) (by omega) (by omega) (t_L_law_688 Z hr hlk hX hbl hG hk28 l1 l2 l3 h cells slots hcc hss H locs ls hq hR hS (hl.sub [0, 1, 2, 3] rfl))
    refine lv_iconst (v := 0) hx hb dL_law_449 (by decide) ?_
    exact absurd hq lw_no
  replace hq := ite_f hq e42_8
  by_cases e42_9 : (x38 &&& 31) = 9
  · have hq := ite_t hq e42_9
    refine lv_tableIn (x := (x38 &&& 31)) (off := 409) (tgt := 451) hx hb dL_law_42 (by rw [e42_9]; decide) (by rw [e42_9]; decide) (by rw [e42_9]; rfl) (by decide) ?_
    refine xaln hx hb hl (x := l1) 1 rfl dL_law_451 ?_
    refine xcV Z hR hS hl (rest := []) (As := []) hq cl_L_63 (fun b x h1 hc => c_X7_round l b h x h1 hc) ⟨⟨rfl, rfl⟩, (by decide), (by decide)⟩ rfl rfl (by first | decide | (simp only [List.map_cons, List.map_nil, rf_cat, ct_int, ct_ref, List.sum_cons, List.sum_nil] <;> decide)) dL_law_452 ⟨by show _ ≤ 600000; omega, by show _ ≤ 7302250; omega⟩ (fun x452 h H locs hq hR hS => ?_)
    refine xaln hx hb hl (x := l2) 2 rfl dL_law_455 ?_
    refine xcV Z hR hS hl (rest := [.int x452]) (As := []) hq cl_L_67 (fun b x h1 hc => c_X8_round l b h x h1 hc) ⟨⟨rfl, rfl⟩, (by decide), (by decide)⟩ rfl rfl (by first | decide | (simp only [List.map_cons, List.map_nil, rf_cat, ct_int, ct_ref, List.sum_cons, List.sum_nil] <;> decide)) dL_law_456 ⟨by show _ ≤ 600000; omega, by show _ ≤ 7302250; omega⟩ (fun x456 h H locs hq hR hS => ?_)
    refine xcEq hx hb hq (tgt := 688) dL_law_459 (by decide) (fun hq => ?_) (fun hq => ?_)
    · exact W.widen (k := cells + 6) (n := slots + 238) (by omega) (by omega) (t_L_law_688 Z hr hlk hX hbl hG hk28 l1 l2 l3 h cells slots hcc hss H locs ls hq hR hS (hl.sub [0, 1, 2, 3] rfl))
    refine lv_iconst (v := 0) hx hb dL_law_462 (by decide) ?_
    exact absurd hq lw_no
  replace hq := ite_f hq e42_9
  by_cases e42_10 : (x38 &&& 31) = 10
  · have hq := ite_t hq e42_10
    refine lv_tableIn (x := (x38 &&& 31)) (off := 422) (tgt := 464) hx hb dL_law_42 (by rw [e42_10]; decide) (by rw [e42_10]; decide) (by rw [e42_10]; rfl) (by decide) ?_
    refine xaln hx hb hl (x := l1) 1 rfl dL_law_464 ?_
    refine xcV Z hR hS hl (rest := []) (As := []) hq cl_L_68 (fun b x h1 hc => c_X7_best l b h x h1 hc) ⟨⟨rfl, rfl⟩, (by decide), (by decide)⟩ rfl rfl (by first | decide | (simp only [List.map_cons, List.map_nil, rf_cat, ct_int, ct_ref, List.sum_cons, List.sum_nil] <;> decide)) dL_law_465 ⟨by show _ ≤ 600000; omega, by show _ ≤ 7302250; omega⟩ (fun x465 h H locs hq hR hS => ?_)
    refine xaln hx hb hl (x := l2) 2 rfl dL_law_468 ?_
    refine xcV Z hR hS hl (rest := [.int x465]) (As := []) hq cl_L_71 (fun b x h1 hc => c_X8_best l b h x h1 hc) ⟨⟨rfl, rfl⟩, (by decide), (by decide)⟩ rfl rfl (by first | decide | (simp only [List.map_cons, List.map_nil, rf_cat, ct_int, ct_ref, List.sum_cons, List.sum_nil] <;> decide)) dL_law_469 ⟨by show _ ≤ 600000; omega, by show _ ≤ 7302250; omega⟩ (fun x469 h H locs hq hR hS => ?_)
    refine xcEq hx hb hq (tgt := 688) dL_law_472 (by decide) (fun hq => ?_) (fun hq => ?_)
    · exact W.widen (k := cells + 6) (n := slots + 238) (by omega) (by omega) (t_L_law_688 Z hr hlk hX hbl hG hk28 l1 l2 l3 h cells slots hcc hss H locs ls hq hR hS (hl.sub [0, 1, 2, 3] rfl))
    refine lv_iconst (v := 0) hx hb dL_law_475 (by decide) ?_
    exact absurd hq lw_no
  replace hq := ite_f hq e42_10
  by_cases e42_11 : (x38 &&& 31) = 11
  · have hq := ite_t hq e42_11
    refine lv_tableIn (x := (x38 &&& 31)) (off := 435) (tgt := 477) hx hb dL_law_42 (by rw [e42_11]; decide) (by rw [e42_11]; decide) (by rw [e42_11]; rfl) (by decide) ?_
    refine xaln hx hb hl (x := l1) 1 rfl dL_law_477 ?_
    refine lv_aload_n hx hb dL_law_478 rfl (hl.at 0 rfl) ?_
    refine xiln hx hb hl (x := l3) 3 rfl dL_law_479 ?_
    refine lv_iconst (v := 1) hx hb dL_law_480 (by decide) ?_
    refine lv_iadd hx hb dL_law_481 ?_
    refine xls hx hb hX hbl hbA hS hq dL_law_482 (fun x482 hq => ?_)
    refine lv_aload_n hx hb dL_law_483 rfl (hl.at 0 rfl) ?_
    refine xiln hx hb hl (x := l3) 3 rfl dL_law_484 ?_
    refine lv_iconst (v := 2) hx hb dL_law_485 (by decide) ?_
    refine lv_iadd hx hb dL_law_486 ?_
    refine xls hx hb hX hbl hbA hS hq dL_law_487 (fun x487 hq => ?_)
    refine xcV Z hR hS hl (rest := []) (As := [.int x482, .int x487]) hq cl_L_72 (fun b x h1 hc => c_X7_path l b x482 x487 h x h1 hc) ⟨⟨rfl, rfl⟩, (by decide), (by decide)⟩ rfl rfl (by first | decide | (simp only [List.map_cons, List.map_nil, rf_cat, ct_int, ct_ref, List.sum_cons, List.sum_nil] <;> decide)) dL_law_488 ⟨by show _ ≤ 600000; omega, by show _ ≤ 7302250; omega⟩ (fun x488 h H locs hq hR hS => ?_)
    refine xaln hx hb hl (x := l2) 2 rfl dL_law_491 ?_
    refine lv_aload_n hx hb dL_law_492 rfl (hl.at 0 rfl) ?_
    refine xiln hx hb hl (x := l3) 3 rfl dL_law_493 ?_
    refine lv_iconst (v := 1) hx hb dL_law_494 (by decide) ?_
    refine lv_iadd hx hb dL_law_495 ?_
    refine xls hx hb hX hbl hbA hS hq dL_law_496 (fun x496 hq => ?_)
    refine lv_aload_n hx hb dL_law_497 rfl (hl.at 0 rfl) ?_
    refine xiln hx hb hl (x := l3) 3 rfl dL_law_498 ?_
    refine lv_iconst (v := 2) hx hb dL_law_499 (by decide) ?_
    refine lv_iadd hx hb dL_law_500 ?_
    refine xls hx hb hX hbl hbA hS hq dL_law_501 (fun x501 hq => ?_)
    refine xcV Z hR hS hl (rest := [.int x488]) (As := [.int x496, .int x501]) hq cl_L_76 (fun b x h1 hc => c_X8_path l b x496 x501 h x h1 hc) ⟨⟨rfl, rfl⟩, (by decide), (by decide)⟩ rfl rfl (by first | decide | (simp only [List.map_cons, List.map_nil, rf_cat, ct_int, ct_ref, List.sum_cons, List.sum_nil] <;> decide)) dL_law_502 ⟨by show _ ≤ 600000; omega, by show _ ≤ 7302250; omega⟩ (fun x502 h H locs hq hR hS => ?_)
    refine xcEq hx hb hq (tgt := 688) dL_law_505 (by decide) (fun hq => ?_) (fun hq => ?_)
    · exact W.widen (k := cells + 6) (n := slots + 238) (by omega) (by omega) (t_L_law_688 Z hr hlk hX hbl hG hk28 l1 l2 l3 h cells slots hcc hss H locs ls hq hR hS (hl.sub [0, 1, 2, 3] rfl))
    refine lv_iconst (v := 0) hx hb dL_law_508 (by decide) ?_
    exact absurd hq lw_no
  replace hq := ite_f hq e42_11
  by_cases e42_12 : (x38 &&& 31) = 12
  · have hq := ite_t hq e42_12
    refine lv_tableIn (x := (x38 &&& 31)) (off := 468) (tgt := 510) hx hb dL_law_42 (by rw [e42_12]; decide) (by rw [e42_12]; decide) (by rw [e42_12]; rfl) (by decide) ?_
    refine xaln hx hb hl (x := l1) 1 rfl dL_law_510 ?_
    refine lv_aload_n hx hb dL_law_511 rfl (hl.at 0 rfl) ?_
    refine xiln hx hb hl (x := l3) 3 rfl dL_law_512 ?_
    refine lv_iconst (v := 1) hx hb dL_law_513 (by decide) ?_
    refine lv_iadd hx hb dL_law_514 ?_
    refine xls hx hb hX hbl hbA hS hq dL_law_515 (fun x515 hq => ?_)
    refine xcV Z hR hS hl (rest := []) (As := [.int x515]) hq cl_L_77 (fun b x h1 hc => c_X7_why l b x515 h x h1 hc) ⟨⟨rfl, rfl⟩, (by decide), (by decide)⟩ rfl rfl (by first | decide | (simp only [List.map_cons, List.map_nil, rf_cat, ct_int, ct_ref, List.sum_cons, List.sum_nil] <;> decide)) dL_law_516 ⟨by show _ ≤ 600000; omega, by show _ ≤ 7302250; omega⟩ (fun x516 h H locs hq hR hS => ?_)
    refine xaln hx hb hl (x := l2) 2 rfl dL_law_519 ?_
    refine lv_aload_n hx hb dL_law_520 rfl (hl.at 0 rfl) ?_
    refine xiln hx hb hl (x := l3) 3 rfl dL_law_521 ?_
    refine lv_iconst (v := 1) hx hb dL_law_522 (by decide) ?_
    refine lv_iadd hx hb dL_law_523 ?_
    refine xls hx hb hX hbl hbA hS hq dL_law_524 (fun x524 hq => ?_)
    refine xcV Z hR hS hl (rest := [.int x516]) (As := [.int x524]) hq cl_L_80 (fun b x h1 hc => c_X8_why l b x524 h x h1 hc) ⟨⟨rfl, rfl⟩, (by decide), (by decide)⟩ rfl rfl (by first | decide | (simp only [List.map_cons, List.map_nil, rf_cat, ct_int, ct_ref, List.sum_cons, List.sum_nil] <;> decide)) dL_law_525 ⟨by show _ ≤ 600000; omega, by show _ ≤ 7302250; omega⟩ (fun x525 h H locs hq hR hS => ?_)
    refine xcEq hx hb hq (tgt := 688) dL_law_528 (by decide) (fun hq => ?_) (fun hq => ?_)
    · exact W.widen (k := cells + 6) (n := slots + 238) (by omega) (by omega) (t_L_law_688 Z hr hlk hX hbl hG hk28 l1 l2 l3 h cells slots hcc hss H locs ls hq hR hS (hl.sub [0, 1, 2, 3] rfl))
    refine lv_iconst (v := 0) hx hb dL_law_531 (by decide) ?_
    exact absurd hq lw_no
  replace hq := ite_f hq e42_12
  by_cases e42_13 : (x38 &&& 31) = 13
  · have hq := ite_t hq e42_13
    refine lv_tableIn (x := (x38 &&& 31)) (off := 491) (tgt := 533) hx hb dL_law_42 (by rw [e42_13]; decide) (by rw [e42_13]; decide) (by rw [e42_13]; rfl) (by decide) ?_
    refine xaln hx hb hl (x := l1) 1 rfl dL_law_533 ?_
    refine lv_aload_n hx hb dL_law_534 rfl (hl.at 0 rfl) ?_
    refine xiln hx hb hl (x := l3) 3 rfl dL_law_535 ?_
    refine lv_iconst (v := 1) hx hb dL_law_536 (by decide) ?_
    refine lv_iadd hx hb dL_law_537 ?_
    refine xls hx hb hX hbl hbA hS hq dL_law_538 (fun x538 hq => ?_)
    refine lv_aload_n hx hb dL_law_539 rfl (hl.at 0 rfl) ?_
    refine xiln hx hb hl (x := l3) 3 rfl dL_law_540 ?_
    refine lv_iconst (v := 2) hx hb dL_law_541 (by decide) ?_
    refine lv_iadd hx hb dL_law_542 ?_
    refine xls hx hb hX hbl hbA hS hq dL_law_543 (fun x543 hq => ?_)
    refine lv_aload_n hx hb dL_law_544 rfl (hl.at 0 rfl) ?_
    refine xiln hx hb hl (x := l3) 3 rfl dL_law_545 ?_
    refine lv_iconst (v := 3) hx hb dL_law_546 (by decide) ?_
    refine lv_iadd hx hb dL_law_547 ?_
    refine xls hx hb hX hbl hbA hS hq dL_law_548 (fun x548 hq => ?_)
    refine xcV Z hR hS hl (rest := []) (As := [.int x538, .int x543, .int x548]) hq cl_L_81 (fun b x h1 hc => c_X7_delay l b x538 x543 x548 h x h1 hc) ⟨⟨rfl, rfl⟩, (by decide), (by decide)⟩ rfl rfl (by first | decide | (simp only [List.map_cons, List.map_nil, rf_cat, ct_int, ct_ref, List.sum_cons, List.sum_nil] <;> decide)) dL_law_549 ⟨by show _ ≤ 600000; omega, by show _ ≤ 7302250; omega⟩ (fun x549 h H locs hq hR hS => ?_)
    refine xaln hx hb hl (x := l2) 2 rfl dL_law_552 ?_
    refine lv_aload_n hx hb dL_law_553 rfl (hl.at 0 rfl) ?_
    refine xiln hx hb hl (x := l3) 3 rfl dL_law_554 ?_
    refine lv_iconst (v := 1) hx hb dL_law_555 (by decide) ?_
    refine lv_iadd hx hb dL_law_556 ?_
    refine xls hx hb hX hbl hbA hS hq dL_law_557 (fun x557 hq => ?_)
    refine lv_aload_n hx hb dL_law_558 rfl (hl.at 0 rfl) ?_
    refine xiln hx hb hl (x := l3) 3 rfl dL_law_559 ?_
    refine lv_iconst (v := 2) hx hb dL_law_560 (by decide) ?_
    refine lv_iadd hx hb dL_law_561 ?_
    refine xls hx hb hX hbl hbA hS hq dL_law_562 (fun x562 hq => ?_)
    refine lv_aload_n hx hb dL_law_563 rfl (hl.at 0 rfl) ?_
    refine xiln hx hb hl (x := l3) 3 rfl dL_law_564 ?_
    refine lv_iconst (v := 3) hx hb dL_law_565 (by decide) ?_
    refine lv_iadd hx hb dL_law_566 ?_
    refine xls hx hb hX hbl hbA hS hq dL_law_567 (fun x567 hq => ?_)
    refine xcV Z hR hS hl (rest := [.int x549]) (As := [.int x557, .int x562, .int x567]) hq cl_L_84 (fun b x h1 hc => c_X8_delay l b x557 x562 x567 h x h1 hc) ⟨⟨rfl, rfl⟩, (by decide), (by decide)⟩ rfl rfl (by first | decide | (simp only [List.map_cons, List.map_nil, rf_cat, ct_int, ct_ref, List.sum_cons, List.sum_nil] <;> decide)) dL_law_568 ⟨by show _ ≤ 600000; omega, by show _ ≤ 7302250; omega⟩ (fun x568 h H locs hq hR hS => ?_)
    refine xcEq hx hb hq (tgt := 688) dL_law_571 (by decide) (fun hq => ?_) (fun hq => ?_)
    · exact W.widen (k := cells + 6) (n := slots + 238) (by omega) (by omega) (t_L_law_688 Z hr hlk hX hbl hG hk28 l1 l2 l3 h cells slots hcc hss H locs ls hq hR hS (hl.sub [0, 1, 2, 3] rfl))
    refine lv_iconst (v := 0) hx hb dL_law_574 (by decide) ?_
    exact absurd hq lw_no
  replace hq := ite_f hq e42_13
  by_cases e42_14 : (x38 &&& 31) = 14
  · have hq := ite_t hq e42_14
    refine lv_tableIn (x := (x38 &&& 31)) (off := 534) (tgt := 576) hx hb dL_law_42 (by rw [e42_14]; decide) (by rw [e42_14]; decide) (by rw [e42_14]; rfl) (by decide) ?_
    refine xaln hx hb hl (x := l1) 1 rfl dL_law_576 ?_
    refine lv_aload_n hx hb dL_law_577 rfl (hl.at 0 rfl) ?_
    refine xiln hx hb hl (x := l3) 3 rfl dL_law_578 ?_
    refine lv_iconst (v := 1) hx hb dL_law_579 (by decide) ?_
    refine lv_iadd hx hb dL_law_580 ?_
    refine xls hx hb hX hbl hbA hS hq dL_law_581 (fun x581 hq => ?_)
    refine lv_aload_n hx hb dL_law_582 rfl (hl.at 0 rfl) ?_
    refine xiln hx hb hl (x := l3) 3 rfl dL_law_583 ?_
    refine lv_iconst (v := 2) hx hb dL_law_584 (by decide) ?_
    refine lv_iadd hx hb dL_law_585 ?_
    refine xls hx hb hX hbl hbA hS hq dL_law_586 (fun x586 hq => ?_)
    refine xcV Z hR hS hl (rest := []) (As := [.int x581, .int x586]) hq cl_L_85 (fun b x h1 hc => c_X7_ran l b x581 x586 h x h1 hc) ⟨⟨rfl, rfl⟩, (by decide), (by decide)⟩ rfl rfl (by first | decide | (simp only [List.map_cons, List.map_nil, rf_cat, ct_int, ct_ref, List.sum_cons, List.sum_nil] <;> decide)) dL_law_587 ⟨by show _ ≤ 600000; omega, by show _ ≤ 7302250; omega⟩ (fun x587 h H locs hq hR hS => ?_)
    refine xaln hx hb hl (x := l2) 2 rfl dL_law_590 ?_
    refine lv_aload_n hx hb dL_law_591 rfl (hl.at 0 rfl) ?_
    refine xiln hx hb hl (x := l3) 3 rfl dL_law_592 ?_
    refine lv_iconst (v := 1) hx hb dL_law_593 (by decide) ?_
    refine lv_iadd hx hb dL_law_594 ?_
    refine xls hx hb hX hbl hbA hS hq dL_law_595 (fun x595 hq => ?_)
    refine lv_aload_n hx hb dL_law_596 rfl (hl.at 0 rfl) ?_
    refine xiln hx hb hl (x := l3) 3 rfl dL_law_597 ?_
    refine lv_iconst (v := 2) hx hb dL_law_598 (by decide) ?_
    refine lv_iadd hx hb dL_law_599 ?_
    refine xls hx hb hX hbl hbA hS hq dL_law_600 (fun x600 hq => ?_)
    refine xcV Z hR hS hl (rest := [.int x587]) (As := [.int x595, .int x600]) hq cl_L_88 (fun b x h1 hc => c_X8_ran l b x595 x600 h x h1 hc) ⟨⟨rfl, rfl⟩, (by decide), (by decide)⟩ rfl rfl (by first | decide | (simp only [List.map_cons, List.map_nil, rf_cat, ct_int, ct_ref, List.sum_cons, List.sum_nil] <;> decide)) dL_law_601 ⟨by show _ ≤ 600000; omega, by show _ ≤ 7302250; omega⟩ (fun x601 h H locs hq hR hS => ?_)
    refine xcEq hx hb hq (tgt := 688) dL_law_604 (by decide) (fun hq => ?_) (fun hq => ?_)
    · exact W.widen (k := cells + 6) (n := slots + 238) (by omega) (by omega) (t_L_law_688 Z hr hlk hX hbl hG hk28 l1 l2 l3 h cells slots hcc hss H locs ls hq hR hS (hl.sub [0, 1, 2, 3] rfl))
    refine lv_iconst (v := 0) hx hb dL_law_607 (by decide) ?_
    exact absurd hq lw_no
  replace hq := ite_f hq e42_14
  by_cases e42_15 : (x38 &&& 31) = 15
  · have hq := ite_t hq e42_15
    refine lv_tableIn (x := (x38 &&& 31)) (off := 567) (tgt := 609) hx hb dL_law_42 (by rw [e42_15]; decide) (by rw [e42_15]; decide) (by rw [e42_15]; rfl) (by decide) ?_
    refine xaln hx hb hl (x := l1) 1 rfl dL_law_609 ?_
    refine lv_aload_n hx hb dL_law_610 rfl (hl.at 0 rfl) ?_
    refine xiln hx hb hl (x := l3) 3 rfl dL_law_611 ?_
    refine lv_iconst (v := 1) hx hb dL_law_612 (by decide) ?_
    refine lv_iadd hx hb dL_law_613 ?_
    refine xls hx hb hX hbl hbA hS hq dL_law_614 (fun x614 hq => ?_)
    refine lv_aload_n hx hb dL_law_615 rfl (hl.at 0 rfl) ?_
    refine xiln hx hb hl (x := l3) 3 rfl dL_law_616 ?_
    refine lv_iconst (v := 2) hx hb dL_law_617 (by decide) ?_
    refine lv_iadd hx hb dL_law_618 ?_
    refine xls hx hb hX hbl hbA hS hq dL_law_619 (fun x619 hq => ?_)
    refine xcV Z hR hS hl (rest := []) (As := [.int x614, .int x619]) hq cl_L_89 (fun b x h1 hc => c_X7_blame l b x614 x619 h x h1 hc) ⟨⟨rfl, rfl⟩, (by decide), (by decide)⟩ rfl rfl (by first | decide | (simp only [List.map_cons, List.map_nil, rf_cat, ct_int, ct_ref, List.sum_cons, List.sum_nil] <;> decide)) dL_law_620 ⟨by show _ ≤ 600000; omega, by show _ ≤ 7302250; omega⟩ (fun x620 h H locs hq hR hS => ?_)
    refine xaln hx hb hl (x := l2) 2 rfl dL_law_623 ?_
    refine lv_aload_n hx hb dL_law_624 rfl (hl.at 0 rfl) ?_
    refine xiln hx hb hl (x := l3) 3 rfl dL_law_625 ?_
    refine lv_iconst (v := 1) hx hb dL_law_626 (by decide) ?_
    refine lv_iadd hx hb dL_law_627 ?_
    refine xls hx hb hX hbl hbA hS hq dL_law_628 (fun x628 hq => ?_)
    refine lv_aload_n hx hb dL_law_629 rfl (hl.at 0 rfl) ?_
    refine xiln hx hb hl (x := l3) 3 rfl dL_law_630 ?_
    refine lv_iconst (v := 2) hx hb dL_law_631 (by decide) ?_
    refine lv_iadd hx hb dL_law_632 ?_
    refine xls hx hb hX hbl hbA hS hq dL_law_633 (fun x633 hq => ?_)
    refine xcV Z hR hS hl (rest := [.int x620]) (As := [.int x628, .int x633]) hq cl_L_92 (fun b x h1 hc => c_X8_blame l b x628 x633 h x h1 hc) ⟨⟨rfl, rfl⟩, (by decide), (by decide)⟩ rfl rfl (by first | decide | (simp only [List.map_cons, List.map_nil, rf_cat, ct_int, ct_ref, List.sum_cons, List.sum_nil] <;> decide)) dL_law_634 ⟨by show _ ≤ 600000; omega, by show _ ≤ 7302250; omega⟩ (fun x634 h H locs hq hR hS => ?_)
    refine xcEq hx hb hq (tgt := 688) dL_law_637 (by decide) (fun hq => ?_) (fun hq => ?_)
    · exact W.widen (k := cells + 6) (n := slots + 238) (by omega) (by omega) (t_L_law_688 Z hr hlk hX hbl hG hk28 l1 l2 l3 h cells slots hcc hss H locs ls hq hR hS (hl.sub [0, 1, 2, 3] rfl))
    refine lv_iconst (v := 0) hx hb dL_law_640 (by decide) ?_
    exact absurd hq lw_no
  replace hq := ite_f hq e42_15
  by_cases e42_16 : (x38 &&& 31) = 16
  · have hq := ite_t hq e42_16
    refine lv_tableIn (x := (x38 &&& 31)) (off := 600) (tgt := 642) hx hb dL_law_42 (by rw [e42_16]; decide) (by rw [e42_16]; decide) (by rw [e42_16]; rfl) (by decide) ?_
    refine xaln hx hb hl (x := l1) 1 rfl dL_law_642 ?_
    refine lv_aload_n hx hb dL_law_643 rfl (hl.at 0 rfl) ?_
    refine xiln hx hb hl (x := l3) 3 rfl dL_law_644 ?_
    refine lv_iconst (v := 1) hx hb dL_law_645 (by decide) ?_
    refine lv_iadd hx hb dL_law_646 ?_
    refine xls hx hb hX hbl hbA hS hq dL_law_647 (fun x647 hq => ?_)
    refine xcV Z hR hS hl (rest := []) (As := [.int x647]) hq cl_L_93 (fun b x h1 hc => c_X7_balance l b x647 h x h1 hc) ⟨⟨rfl, rfl⟩, (by decide), (by decide)⟩ rfl rfl (by first | decide | (simp only [List.map_cons, List.map_nil, rf_cat, ct_int, ct_ref, List.sum_cons, List.sum_nil] <;> decide)) dL_law_648 ⟨by show _ ≤ 600000; omega, by show _ ≤ 7302250; omega⟩ (fun x648 h H locs hq hR hS => ?_)
    refine xaln hx hb hl (x := l2) 2 rfl dL_law_651 ?_
    refine lv_aload_n hx hb dL_law_652 rfl (hl.at 0 rfl) ?_
    refine xiln hx hb hl (x := l3) 3 rfl dL_law_653 ?_
    refine lv_iconst (v := 1) hx hb dL_law_654 (by decide) ?_
    refine lv_iadd hx hb dL_law_655 ?_
    refine xls hx hb hX hbl hbA hS hq dL_law_656 (fun x656 hq => ?_)
    refine xcV Z hR hS hl (rest := [.int x648]) (As := [.int x656]) hq cl_L_96 (fun b x h1 hc => c_X8_balance l b x656 h x h1 hc) ⟨⟨rfl, rfl⟩, (by decide), (by decide)⟩ rfl rfl (by first | decide | (simp only [List.map_cons, List.map_nil, rf_cat, ct_int, ct_ref, List.sum_cons, List.sum_nil] <;> decide)) dL_law_657 ⟨by show _ ≤ 600000; omega, by show _ ≤ 7302250; omega⟩ (fun x657 h H locs hq hR hS => ?_)
    refine xcEq hx hb hq (tgt := 688) dL_law_660 (by decide) (fun hq => ?_) (fun hq => ?_)
    · exact W.widen (k := cells + 6) (n := slots + 238) (by omega) (by omega) (t_L_law_688 Z hr hlk hX hbl hG hk28 l1 l2 l3 h cells slots hcc hss H locs ls hq hR hS (hl.sub [0, 1, 2, 3] rfl))
    refine lv_iconst (v := 0) hx hb dL_law_663 (by decide) ?_
    exact absurd hq lw_no
  replace hq := ite_f hq e42_16
  by_cases e42_17 : (x38 &&& 31) = 17
  · have hq := ite_t hq e42_17
    refine lv_tableIn (x := (x38 &&& 31)) (off := 623) (tgt := 665) hx hb dL_law_42 (by rw [e42_17]; decide) (by rw [e42_17]; decide) (by rw [e42_17]; rfl) (by decide) ?_
    refine xaln hx hb hl (x := l1) 1 rfl dL_law_665 ?_
    refine lv_aload_n hx hb dL_law_666 rfl (hl.at 0 rfl) ?_
    refine xiln hx hb hl (x := l3) 3 rfl dL_law_667 ?_
    refine lv_iconst (v := 1) hx hb dL_law_668 (by decide) ?_
    refine lv_iadd hx hb dL_law_669 ?_
    refine xls hx hb hX hbl hbA hS hq dL_law_670 (fun x670 hq => ?_)
    refine xcV Z hR hS hl (rest := []) (As := [.int x670]) hq cl_L_97 (fun b x h1 hc => c_X7_count l b x670 h x h1 hc) ⟨⟨rfl, rfl⟩, (by decide), (by decide)⟩ rfl rfl (by first | decide | (simp only [List.map_cons, List.map_nil, rf_cat, ct_int, ct_ref, List.sum_cons, List.sum_nil] <;> decide)) dL_law_671 ⟨by show _ ≤ 600000; omega, by show _ ≤ 7302250; omega⟩ (fun x671 h H locs hq hR hS => ?_)
    refine xaln hx hb hl (x := l2) 2 rfl dL_law_674 ?_
    refine lv_aload_n hx hb dL_law_675 rfl (hl.at 0 rfl) ?_
    refine xiln hx hb hl (x := l3) 3 rfl dL_law_676 ?_
    refine lv_iconst (v := 1) hx hb dL_law_677 (by decide) ?_
    refine lv_iadd hx hb dL_law_678 ?_
    refine xls hx hb hX hbl hbA hS hq dL_law_679 (fun x679 hq => ?_)
    refine xcV Z hR hS hl (rest := [.int x671]) (As := [.int x679]) hq cl_L_100 (fun b x h1 hc => c_X8_count l b x679 h x h1 hc) ⟨⟨rfl, rfl⟩, (by decide), (by decide)⟩ rfl rfl (by first | decide | (simp only [List.map_cons, List.map_nil, rf_cat, ct_int, ct_ref, List.sum_cons, List.sum_nil] <;> decide)) dL_law_680 ⟨by show _ ≤ 600000; omega, by show _ ≤ 7302250; omega⟩ (fun x680 h H locs hq hR hS => ?_)
    refine xcEq hx hb hq (tgt := 688) dL_law_683 (by decide) (fun hq => ?_) (fun hq => ?_)
    · exact W.widen (k := cells + 6) (n := slots + 238) (by omega) (by omega) (t_L_law_688 Z hr hlk hX hbl hG hk28 l1 l2 l3 h cells slots hcc hss H locs ls hq hR hS (hl.sub [0, 1, 2, 3] rfl))
    refine lv_iconst (v := 0) hx hb dL_law_686 (by decide) ?_
    exact absurd hq lw_no
  replace hq := ite_f hq e42_17
  refine lv_tableOut (x := (x38 &&& 31)) (tgt := 688) hx hb dL_law_42 (sw_out 18 (by decide) (by intro j hj; match j, hj with | 0, _ => exact e42_0 | 1, _ => exact e42_1 | 2, _ => exact e42_2 | 3, _ => exact e42_3 | 4, _ => exact e42_4 | 5, _ => exact e42_5 | 6, _ => exact e42_6 | 7, _ => exact e42_7 | 8, _ => exact e42_8 | 9, _ => exact e42_9 | 10, _ => exact e42_10 | 11, _ => exact e42_11 | 12, _ => exact e42_12 | 13, _ => exact e42_13 | 14, _ => exact e42_14 | 15, _ => exact e42_15 | 16, _ => exact e42_16 | 17, _ => exact e42_17 | j + 18, hj => exact absurd hj (by omega))) (by decide) ?_
  exact W.widen (k := cells + 6) (n := slots + 238) (by omega) (by omega) (t_L_law_688 Z hr hlk hX hbl hG hk28 l1 l2 l3 h cells slots hcc hss H locs ls hq hR hS (hl.sub [0, 1, 2, 3] rfl))
def f_L_law_28 (E : Nat × Nat) (L : Nat) (xs : Nat → Int32) (l1 : Option Nat) (l2 : Option Nat) (l3 : Int32) (h : Hp) : Option (Int32 × Hp) :=
  lp (fun (k28 : Option Nat × Option Nat × Int32 × Hp → Option (Int32 × Hp)) (u : Option Nat × Option Nat × Int32 × Hp) => fb_L_law_28 E L xs k28 u.1 u.2.1 u.2.2.1 u.2.2.2) FU (l1, l2, l3, h)
theorem t_L_law_28 (Z : ZZ p s m #[Value.ref b] c code RL 4 G) (hr : meth.sig.returnType = some .boolean) (hlk : meth.locks = false) (hX : va_X b L xs s s.heap) (hbl : b < s.heap.size) (hG : G.1.1 = s.heap.size) {h1 : Hp} : ∀ (l1 : Option Nat) (l2 : Option Nat) (l3 : Int32) (h : Hp) (cells slots : Nat), cells + FU * 6 ≤ 600000 → slots + FU * 238 ≤ 7302250 → ∀ (H : Heap) (locs : List Loc) (ls : Array Slot), f_L_law_28 G.1.2 L xs l1 l2 l3 h = some (1, h1) → Rep G h H → va_S (AA G) s.heap H locs → LV ls 4 [(0, .ref b), (1, va_rf l1), (2, va_rf l2), (3, .int l3)] → W p l e room_1 s m #[Value.ref b] below meth c H locs (cells + 0) (slots + 0) (lw_Z below #[Value.ref b] s) (F0 m 28 ls []) := by
  intro l1 l2 l3 h cells slots hcc hss H locs ls hq hR hS hl
  exact lp_indN (P := fun (n : Nat) (u : Option Nat × Option Nat × Int32 × Hp) => ∀ (cells slots : Nat), cells + n * 6 ≤ 600000 → slots + n * 238 ≤ 7302250 → ∀ (H : Heap) (locs : List Loc) (ls : Array Slot), Rep G u.2.2.2 H → va_S (AA G) s.heap H locs → LV ls 4 [(0, .ref b), (1, va_rf u.1), (2, va_rf u.2.1), (3, .int u.2.2.1)] → W p l e room_1 s m #[Value.ref b] below meth c H locs (cells + 0) (slots + 0) (lw_Z below #[Value.ref b] s) (F0 m 28 ls [])) (fun n k hk u hq cells slots hcc hss H locs ls hR hS hl => tb_L_law_28 Z hr hlk hX hbl hG hk u.1 u.2.1 u.2.2.1 u.2.2.2 cells slots hcc hss H locs ls hq hR hS hl) FU (l1, l2, l3, h) hq cells slots hcc hss H locs ls hR hS hl
def f_L_law (E : Nat × Nat) (L : Nat) (xs : Nat → Int32) (h : Hp) : Option (Int32 × Hp) :=
nwO h 8 (fun n0 h =>
vl (cellv L xs 0) (fun x6 =>
bd (f_X7_init E n0 x6 h) (fun u9 h =>
nwO h 9 (fun n13 h =>
vl (cellv L xs 0) (fun x19 =>
bd (f_X8_init n13 x19 h) (fun u22 h =>
f_L_law_28 E L xs (some n0) (some n13) 1 h))))))
set_option maxHeartbeats 4000000 in
set_option maxRecDepth 100000 in
theorem t_L_law (Z : ZZ p s m #[Value.ref b] c code RL 4 G) (hr : meth.sig.returnType = some .boolean) (hlk : meth.locks = false) (hX : va_X b L xs s s.heap) (hbl : b < s.heap.size) (hG : G.1.1 = s.heap.size) {h1 : Hp} (h : Hp) (H : Heap) (locs : List Loc) (ls : Array Slot) (hq : f_L_law G.1.2 L xs h = some (1, h1)) (hR : Rep G h H) (hS : va_S (AA G) s.heap H locs) (hl : LV ls 4 [(0, .ref b)]) : W p l e room_1 s m #[Value.ref b] below meth c H locs 0 0 (lw_Z below #[Value.ref b] s) (F0 m 0 ls []) := by
  have hx := Z.1
  have hb := Z.2.1
  have hbA : ¬ AA G b := by unfold AA; omega
  unfold f_L_law at hq
  refine xnO Z hR hS hq nl_L_7 (by decide) (by decide) dL_law_0 (fun n0 h H hq hR hS => ?_)
  refine lv_dup hx hb dL_law_3 (rf_cat (some n0)) ?_
  refine lv_aload_n hx hb dL_law_4 rfl (hl.at 0 rfl) ?_
  refine lv_iconst (v := 0) hx hb dL_law_5 (by decide) ?_
  refine xcell Z hR hS hl hX hbl hG (rest := [va_rf (some n0), va_rf (some n0)]) (by decide) (by decide) rfl (by first | decide | (simp only [List.map_cons, List.map_nil, rf_cat, ct_int, ct_ref, List.sum_cons, List.sum_nil] <;> decide)) dL_law_6 (by decide) (fun H locs hR hS => ?_)
  obtain ⟨x6, ex6, hq⟩ := vl_inv hq
  rw [← ex6]
  refine xcI Z hR hS hl (rest := [va_rf (some n0)]) (b := n0) (As := [.int x6]) hq cl_L_15 (fun x h1 hc => c_X7_init l n0 x6 h x h1 hc) ⟨⟨rfl, rfl⟩, (by decide), (by decide)⟩ rfl rfl (by first | decide | (simp only [List.map_cons, List.map_nil, rf_cat, ct_int, ct_ref, List.sum_cons, List.sum_nil] <;> decide)) dL_law_9 (by decide) (fun u9 h H locs hq hR hS => ?_)
  refine xasn hx hb hl (x := (some n0)) (lv' := [(1, va_rf (some n0)), (0, .ref b)]) (by decide) dL_law_12 rfl (fun ls hl => ?_)
  refine xnO Z hR hS hq nl_L_18 (by decide) (by decide) dL_law_13 (fun n13 h H hq hR hS => ?_)
  refine lv_dup hx hb dL_law_16 (rf_cat (some n13)) ?_
  refine lv_aload_n hx hb dL_law_17 rfl (hl.at 1 rfl) ?_
  refine lv_iconst (v := 0) hx hb dL_law_18 (by decide) ?_
  refine xcell Z hR hS hl hX hbl hG (rest := [va_rf (some n13), va_rf (some n13)]) (by decide) (by decide) rfl (by first | decide | (simp only [List.map_cons, List.map_nil, rf_cat, ct_int, ct_ref, List.sum_cons, List.sum_nil] <;> decide)) dL_law_19 (by decide) (fun H locs hR hS => ?_)
  obtain ⟨x19, ex19, hq⟩ := vl_inv hq
  rw [← ex19]
  refine xcI Z hR hS hl (rest := [va_rf (some n13)]) (b := n13) (As := [.int x19]) hq cl_L_20 (fun x h1 hc => c_X8_init l n13 x19 h x h1 hc) ⟨⟨rfl, rfl⟩, (by decide), (by decide)⟩ rfl rfl (by first | decide | (simp only [List.map_cons, List.map_nil, rf_cat, ct_int, ct_ref, List.sum_cons, List.sum_nil] <;> decide)) dL_law_22 (by decide) (fun u22 h H locs hq hR hS => ?_)
  refine xasn hx hb hl (x := (some n13)) (lv' := [(2, va_rf (some n13)), (1, va_rf (some n0)), (0, .ref b)]) (by decide) dL_law_25 rfl (fun ls hl => ?_)
  refine lv_iconst (v := 1) hx hb dL_law_26 (by decide) ?_
  refine xisn hx hb hl (x := 1) (lv' := [(3, .int 1), (2, va_rf (some n13)), (1, va_rf (some n0)), (0, .ref b)]) (by decide) dL_law_27 rfl (fun ls hl => ?_)
  exact t_L_law_28 Z hr hlk hX hbl hG (some n0) (some n13) 1 h 63 5990 (by decide) (by decide) H locs ls hq hR hS (hl.sub [3, 2, 1, 0] rfl)
end
