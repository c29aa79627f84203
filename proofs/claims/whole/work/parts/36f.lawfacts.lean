theorem ml_L_37 : Cond.methodLink RL 37 yX11_feed ∈ q_G := q_tb (i := 296) (by decide +kernel) (by decide +kernel)
theorem mt_X11_feed : q_Mt yX11_feed cX11_feed 6 none 5 := ⟨q_tb (i := 299) (by decide +kernel) (by decide +kernel), q_tb (i := 1) (by decide +kernel) (by decide +kernel), by decide +kernel, by decide +kernel, by decide +kernel⟩
theorem mi_X11_feed : Cond.instanceMethod yX11_feed ∈ q_G ∧ Cond.selects yX11_feed.cls yX11_feed yX11_feed ∈ q_G := ⟨q_tb (i := 297) (by decide +kernel) (by decide +kernel), q_tb (i := 298) (by decide +kernel) (by decide +kernel)⟩
theorem ml_L_41 : Cond.methodLink RL 41 yX12_feed ∈ q_G := q_tb (i := 2082) (by decide +kernel) (by decide +kernel)
theorem mt_X12_feed : q_Mt yX12_feed cX12_feed 8 none 5 := ⟨q_tb (i := 2085) (by decide +kernel) (by decide +kernel), q_tb (i := 11) (by decide +kernel) (by decide +kernel), by decide +kernel, by decide +kernel, by decide +kernel⟩
theorem mi_X12_feed : Cond.instanceMethod yX12_feed ∈ q_G ∧ Cond.selects yX12_feed.cls yX12_feed yX12_feed ∈ q_G := ⟨q_tb (i := 2083) (by decide +kernel) (by decide +kernel), q_tb (i := 2084) (by decide +kernel) (by decide +kernel)⟩
theorem ml_L_42 : Cond.methodLink RL 42 yX11_end ∈ q_G := q_tb (i := 304) (by decide +kernel) (by decide +kernel)
theorem mt_X11_end : q_Mt yX11_end cX11_end 2 (some .int) 1 := ⟨q_tb (i := 307) (by decide +kernel) (by decide +kernel), q_tb (i := 1) (by decide +kernel) (by decide +kernel), by decide +kernel, by decide +kernel, by decide +kernel⟩
theorem mi_X11_end : Cond.instanceMethod yX11_end ∈ q_G ∧ Cond.selects yX11_end.cls yX11_end yX11_end ∈ q_G := ⟨q_tb (i := 305) (by decide +kernel) (by decide +kernel), q_tb (i := 306) (by decide +kernel) (by decide +kernel)⟩
theorem ml_L_45 : Cond.methodLink RL 45 yX12_end_ ∈ q_G := q_tb (i := 2086) (by decide +kernel) (by decide +kernel)
theorem mt_X12_end_ : q_Mt yX12_end_ cX12_end_ 3 (some .int) 1 := ⟨q_tb (i := 2089) (by decide +kernel) (by decide +kernel), q_tb (i := 11) (by decide +kernel) (by decide +kernel), by decide +kernel, by decide +kernel, by decide +kernel⟩
theorem mi_X12_end_ : Cond.instanceMethod yX12_end_ ∈ q_G ∧ Cond.selects yX12_end_.cls yX12_end_ yX12_end_ ∈ q_G := ⟨q_tb (i := 2087) (by decide +kernel) (by decide +kernel), q_tb (i := 2088) (by decide +kernel) (by decide +kernel)⟩
theorem ml_L_46 : Cond.methodLink RL 46 yL_load ∈ q_G := q_tb (i := 458) (by decide +kernel) (by decide +kernel)
theorem mw_L_load : q_MtW yL_load cL_load 3 (some .int) [(0, 8, 11, 13)] 2 := ⟨q_tb (i := 460) (by decide +kernel) (by decide +kernel), q_tb (i := 0) (by decide +kernel) (by decide +kernel), by decide +kernel, by decide +kernel, by decide +kernel⟩
theorem ms_L_load : Cond.static yL_load ∈ q_G := q_tb (i := 459) (by decide +kernel) (by decide +kernel)
theorem ml_L_51 : Cond.methodLink RL 51 yX12_load ∈ q_G := q_tb (i := 2090) (by decide +kernel) (by decide +kernel)
theorem mt_X12_load : q_Mt yX12_load cX12_load 3 (some .int) 0 := ⟨q_tb (i := 2093) (by decide +kernel) (by decide +kernel), q_tb (i := 11) (by decide +kernel) (by decide +kernel), by decide +kernel, by decide +kernel, by decide +kernel⟩
theorem mi_X12_load : Cond.instanceMethod yX12_load ∈ q_G ∧ Cond.selects yX12_load.cls yX12_load yX12_load ∈ q_G := ⟨q_tb (i := 2091) (by decide +kernel) (by decide +kernel), q_tb (i := 2092) (by decide +kernel) (by decide +kernel)⟩
theorem ml_L_52 : Cond.methodLink RL 52 yX12_thrown ∈ q_G := q_tb (i := 2078) (by decide +kernel) (by decide +kernel)
theorem mt_X12_thrown : q_Mt yX12_thrown cX12_thrown 1 (some .int) 0 := ⟨q_tb (i := 2081) (by decide +kernel) (by decide +kernel), q_tb (i := 11) (by decide +kernel) (by decide +kernel), by decide +kernel, by decide +kernel, by decide +kernel⟩
theorem mi_X12_thrown : Cond.instanceMethod yX12_thrown ∈ q_G ∧ Cond.selects yX12_thrown.cls yX12_thrown yX12_thrown ∈ q_G := ⟨q_tb (i := 2079) (by decide +kernel) (by decide +kernel), q_tb (i := 2080) (by decide +kernel) (by decide +kernel)⟩
theorem ml_L_55 : Cond.methodLink RL 55 yX11_fault ∈ q_G := q_tb (i := 318) (by decide +kernel) (by decide +kernel)
theorem mt_X11_fault : q_Mt yX11_fault cX11_fault 2 (some .int) 1 := ⟨q_tb (i := 321) (by decide +kernel) (by decide +kernel), q_tb (i := 1) (by decide +kernel) (by decide +kernel), by decide +kernel, by decide +kernel, by decide +kernel⟩
theorem mi_X11_fault : Cond.instanceMethod yX11_fault ∈ q_G ∧ Cond.selects yX11_fault.cls yX11_fault yX11_fault ∈ q_G := ⟨q_tb (i := 319) (by decide +kernel) (by decide +kernel), q_tb (i := 320) (by decide +kernel) (by decide +kernel)⟩
theorem ml_L_58 : Cond.methodLink RL 58 yX12_fault ∈ q_G := q_tb (i := 2220) (by decide +kernel) (by decide +kernel)
theorem mt_X12_fault : q_Mt yX12_fault cX12_fault 2 (some .int) 1 := ⟨q_tb (i := 2223) (by decide +kernel) (by decide +kernel), q_tb (i := 11) (by decide +kernel) (by decide +kernel), by decide +kernel, by decide +kernel, by decide +kernel⟩
theorem mi_X12_fault : Cond.instanceMethod yX12_fault ∈ q_G ∧ Cond.selects yX12_fault.cls yX12_fault yX12_fault ∈ q_G := ⟨q_tb (i := 2221) (by decide +kernel) (by decide +kernel), q_tb (i := 2222) (by decide +kernel) (by decide +kernel)⟩
theorem ml_L_59 : Cond.methodLink RL 59 yL_image ∈ q_G := q_tb (i := 1228) (by decide +kernel) (by decide +kernel)
theorem mw_L_image : q_MtW yL_image cL_image 5 (some .int) [(0, 7, 10, 19), (0, 7, 14, 21)] 4 := ⟨q_tb (i := 1230) (by decide +kernel) (by decide +kernel), q_tb (i := 0) (by decide +kernel) (by decide +kernel), by decide +kernel, by decide +kernel, by decide +kernel⟩
theorem ms_L_image : Cond.static yL_image ∈ q_G := q_tb (i := 1229) (by decide +kernel) (by decide +kernel)
theorem ml_L_62 : Cond.methodLink RL 62 yX12_image ∈ q_G := q_tb (i := 2224) (by decide +kernel) (by decide +kernel)
theorem mt_X12_image : q_Mt yX12_image cX12_image 5 none 3 := ⟨q_tb (i := 2227) (by decide +kernel) (by decide +kernel), q_tb (i := 11) (by decide +kernel) (by decide +kernel), by decide +kernel, by decide +kernel, by decide +kernel⟩
theorem mi_X12_image : Cond.instanceMethod yX12_image ∈ q_G ∧ Cond.selects yX12_image.cls yX12_image yX12_image ∈ q_G := ⟨q_tb (i := 2225) (by decide +kernel) (by decide +kernel), q_tb (i := 2226) (by decide +kernel) (by decide +kernel)⟩
theorem ml_L_63 : Cond.methodLink RL 63 yL_input ∈ q_G := q_tb (i := 1269) (by decide +kernel) (by decide +kernel)
theorem mw_L_input : q_MtW yL_input cL_input 5 (some .int) [(0, 7, 10, 19), (0, 7, 14, 13), (0, 7, 18, 21)] 4 := ⟨q_tb (i := 1271) (by decide +kernel) (by decide +kernel), q_tb (i := 0) (by decide +kernel) (by decide +kernel), by decide +kernel, by decide +kernel, by decide +kernel⟩
theorem ms_L_input : Cond.static yL_input ∈ q_G := q_tb (i := 1270) (by decide +kernel) (by decide +kernel)
theorem ml_L_65 : Cond.methodLink RL 65 yX12_input ∈ q_G := q_tb (i := 2236) (by decide +kernel) (by decide +kernel)
theorem mt_X12_input : q_Mt yX12_input cX12_input 5 none 3 := ⟨q_tb (i := 2239) (by decide +kernel) (by decide +kernel), q_tb (i := 11) (by decide +kernel) (by decide +kernel), by decide +kernel, by decide +kernel, by decide +kernel⟩
theorem mi_X12_input : Cond.instanceMethod yX12_input ∈ q_G ∧ Cond.selects yX12_input.cls yX12_input yX12_input ∈ q_G := ⟨q_tb (i := 2237) (by decide +kernel) (by decide +kernel), q_tb (i := 2238) (by decide +kernel) (by decide +kernel)⟩
theorem ml_L_66 : Cond.methodLink RL 66 yL_begin ∈ q_G := q_tb (i := 1294) (by decide +kernel) (by decide +kernel)
theorem mw_L_begin : q_MtW yL_begin cL_begin 2 (some .int) [(0, 4, 7, 21)] 1 := ⟨q_tb (i := 1296) (by decide +kernel) (by decide +kernel), q_tb (i := 0) (by decide +kernel) (by decide +kernel), by decide +kernel, by decide +kernel, by decide +kernel⟩
theorem ms_L_begin : Cond.static yL_begin ∈ q_G := q_tb (i := 1295) (by decide +kernel) (by decide +kernel)
theorem ml_L_69 : Cond.methodLink RL 69 yX12_begin ∈ q_G := q_tb (i := 2240) (by decide +kernel) (by decide +kernel)
theorem mt_X12_begin : q_Mt yX12_begin cX12_begin 2 none 0 := ⟨q_tb (i := 2243) (by decide +kernel) (by decide +kernel), q_tb (i := 11) (by decide +kernel) (by decide +kernel), by decide +kernel, by decide +kernel, by decide +kernel⟩
theorem mi_X12_begin : Cond.instanceMethod yX12_begin ∈ q_G ∧ Cond.selects yX12_begin.cls yX12_begin yX12_begin ∈ q_G := ⟨q_tb (i := 2241) (by decide +kernel) (by decide +kernel), q_tb (i := 2242) (by decide +kernel) (by decide +kernel)⟩
theorem ml_L_70 : Cond.methodLink RL 70 yL_run ∈ q_G := q_tb (i := 1341) (by decide +kernel) (by decide +kernel)
theorem mw_L_run : q_MtW yL_run cL_run 4 (some .int) [(0, 9, 12, 21), (0, 9, 15, 13)] 3 := ⟨q_tb (i := 1343) (by decide +kernel) (by decide +kernel), q_tb (i := 0) (by decide +kernel) (by decide +kernel), by decide +kernel, by decide +kernel, by decide +kernel⟩
theorem ms_L_run : Cond.static yL_run ∈ q_G := q_tb (i := 1342) (by decide +kernel) (by decide +kernel)
theorem ml_L_73 : Cond.methodLink RL 73 yX12_run ∈ q_G := q_tb (i := 2276) (by decide +kernel) (by decide +kernel)
theorem mt_X12_run : q_Mt yX12_run cX12_run 4 (some .int) 1 := ⟨q_tb (i := 2279) (by decide +kernel) (by decide +kernel), q_tb (i := 11) (by decide +kernel) (by decide +kernel), by decide +kernel, by decide +kernel, by decide +kernel⟩
theorem mi_X12_run : Cond.instanceMethod yX12_run ∈ q_G ∧ Cond.selects yX12_run.cls yX12_run yX12_run ∈ q_G := ⟨q_tb (i := 2277) (by decide +kernel) (by decide +kernel), q_tb (i := 2278) (by decide +kernel) (by decide +kernel)⟩
theorem ml_L_74 : Cond.methodLink RL 74 yX11_peek ∈ q_G := q_tb (i := 322) (by decide +kernel) (by decide +kernel)
theorem mt_X11_peek : q_Mt yX11_peek cX11_peek 4 (some .int) 2 := ⟨q_tb (i := 325) (by decide +kernel) (by decide +kernel), q_tb (i := 1) (by decide +kernel) (by decide +kernel), by decide +kernel, by decide +kernel, by decide +kernel⟩
theorem mi_X11_peek : Cond.instanceMethod yX11_peek ∈ q_G ∧ Cond.selects yX11_peek.cls yX11_peek yX11_peek ∈ q_G := ⟨q_tb (i := 323) (by decide +kernel) (by decide +kernel), q_tb (i := 324) (by decide +kernel) (by decide +kernel)⟩
theorem ml_L_78 : Cond.methodLink RL 78 yX12_peek ∈ q_G := q_tb (i := 2485) (by decide +kernel) (by decide +kernel)
theorem mt_X12_peek : q_Mt yX12_peek cX12_peek 5 (some .int) 2 := ⟨q_tb (i := 2488) (by decide +kernel) (by decide +kernel), q_tb (i := 11) (by decide +kernel) (by decide +kernel), by decide +kernel, by decide +kernel, by decide +kernel⟩
theorem mi_X12_peek : Cond.instanceMethod yX12_peek ∈ q_G ∧ Cond.selects yX12_peek.cls yX12_peek yX12_peek ∈ q_G := ⟨q_tb (i := 2486) (by decide +kernel) (by decide +kernel), q_tb (i := 2487) (by decide +kernel) (by decide +kernel)⟩
theorem ml_L_79 : Cond.methodLink RL 79 yX11_register ∈ q_G := q_tb (i := 334) (by decide +kernel) (by decide +kernel)
theorem mt_X11_register : q_Mt yX11_register cX11_register 5 (some .int) 3 := ⟨q_tb (i := 337) (by decide +kernel) (by decide +kernel), q_tb (i := 1) (by decide +kernel) (by decide +kernel), by decide +kernel, by decide +kernel, by decide +kernel⟩
theorem mi_X11_register : Cond.instanceMethod yX11_register ∈ q_G ∧ Cond.selects yX11_register.cls yX11_register yX11_register ∈ q_G := ⟨q_tb (i := 335) (by decide +kernel) (by decide +kernel), q_tb (i := 336) (by decide +kernel) (by decide +kernel)⟩
theorem ml_L_83 : Cond.methodLink RL 83 yX12_register ∈ q_G := q_tb (i := 2489) (by decide +kernel) (by decide +kernel)
theorem mt_X12_register : q_Mt yX12_register cX12_register 4 (some .int) 3 := ⟨q_tb (i := 2492) (by decide +kernel) (by decide +kernel), q_tb (i := 11) (by decide +kernel) (by decide +kernel), by decide +kernel, by decide +kernel, by decide +kernel⟩
theorem mi_X12_register : Cond.instanceMethod yX12_register ∈ q_G ∧ Cond.selects yX12_register.cls yX12_register yX12_register ∈ q_G := ⟨q_tb (i := 2490) (by decide +kernel) (by decide +kernel), q_tb (i := 2491) (by decide +kernel) (by decide +kernel)⟩
theorem ml_L_84 : Cond.methodLink RL 84 yX11_state ∈ q_G := q_tb (i := 347) (by decide +kernel) (by decide +kernel)
theorem mt_X11_state : q_Mt yX11_state cX11_state 5 (some .int) 3 := ⟨q_tb (i := 350) (by decide +kernel) (by decide +kernel), q_tb (i := 1) (by decide +kernel) (by decide +kernel), by decide +kernel, by decide +kernel, by decide +kernel⟩
theorem mi_X11_state : Cond.instanceMethod yX11_state ∈ q_G ∧ Cond.selects yX11_state.cls yX11_state yX11_state ∈ q_G := ⟨q_tb (i := 348) (by decide +kernel) (by decide +kernel), q_tb (i := 349) (by decide +kernel) (by decide +kernel)⟩
theorem ml_L_87 : Cond.methodLink RL 87 yX12_state ∈ q_G := q_tb (i := 2493) (by decide +kernel) (by decide +kernel)
theorem mt_X12_state : q_Mt yX12_state cX12_state 5 (some .int) 3 := ⟨q_tb (i := 2496) (by decide +kernel) (by decide +kernel), q_tb (i := 11) (by decide +kernel) (by decide +kernel), by decide +kernel, by decide +kernel, by decide +kernel⟩
theorem mi_X12_state : Cond.instanceMethod yX12_state ∈ q_G ∧ Cond.selects yX12_state.cls yX12_state yX12_state ∈ q_G := ⟨q_tb (i := 2494) (by decide +kernel) (by decide +kernel), q_tb (i := 2495) (by decide +kernel) (by decide +kernel)⟩
theorem ml_L_88 : Cond.methodLink RL 88 yX11_partition ∈ q_G := q_tb (i := 351) (by decide +kernel) (by decide +kernel)
theorem mt_X11_partition : q_Mt yX11_partition cX11_partition 5 (some .int) 2 := ⟨q_tb (i := 354) (by decide +kernel) (by decide +kernel), q_tb (i := 1) (by decide +kernel) (by decide +kernel), by decide +kernel, by decide +kernel, by decide +kernel⟩
theorem mi_X11_partition : Cond.instanceMethod yX11_partition ∈ q_G ∧ Cond.selects yX11_partition.cls yX11_partition yX11_partition ∈ q_G := ⟨q_tb (i := 352) (by decide +kernel) (by decide +kernel), q_tb (i := 353) (by decide +kernel) (by decide +kernel)⟩
theorem ml_L_91 : Cond.methodLink RL 91 yX12_partition ∈ q_G := q_tb (i := 2497) (by decide +kernel) (by decide +kernel)
theorem mt_X12_partition : q_Mt yX12_partition cX12_partition 4 (some .int) 2 := ⟨q_tb (i := 2500) (by decide +kernel) (by decide +kernel), q_tb (i := 11) (by decide +kernel) (by decide +kernel), by decide +kernel, by decide +kernel, by decide +kernel⟩
theorem mi_X12_partition : Cond.instanceMethod yX12_partition ∈ q_G ∧ Cond.selects yX12_partition.cls yX12_partition yX12_partition ∈ q_G := ⟨q_tb (i := 2498) (by decide +kernel) (by decide +kernel), q_tb (i := 2499) (by decide +kernel) (by decide +kernel)⟩
theorem ml_L_92 : Cond.methodLink RL 92 yX11_thing ∈ q_G := q_tb (i := 364) (by decide +kernel) (by decide +kernel)
theorem mt_X11_thing : q_Mt yX11_thing cX11_thing 5 (some .int) 3 := ⟨q_tb (i := 367) (by decide +kernel) (by decide +kernel), q_tb (i := 1) (by decide +kernel) (by decide +kernel), by decide +kernel, by decide +kernel, by decide +kernel⟩
theorem mi_X11_thing : Cond.instanceMethod yX11_thing ∈ q_G ∧ Cond.selects yX11_thing.cls yX11_thing yX11_thing ∈ q_G := ⟨q_tb (i := 365) (by decide +kernel) (by decide +kernel), q_tb (i := 366) (by decide +kernel) (by decide +kernel)⟩
theorem ml_L_95 : Cond.methodLink RL 95 yX12_thing ∈ q_G := q_tb (i := 2501) (by decide +kernel) (by decide +kernel)
theorem mt_X12_thing : q_Mt yX12_thing cX12_thing 4 (some .int) 3 := ⟨q_tb (i := 2504) (by decide +kernel) (by decide +kernel), q_tb (i := 11) (by decide +kernel) (by decide +kernel), by decide +kernel, by decide +kernel, by decide +kernel⟩
theorem mi_X12_thing : Cond.instanceMethod yX12_thing ∈ q_G ∧ Cond.selects yX12_thing.cls yX12_thing yX12_thing ∈ q_G := ⟨q_tb (i := 2502) (by decide +kernel) (by decide +kernel), q_tb (i := 2503) (by decide +kernel) (by decide +kernel)⟩
theorem ml_L_96 : Cond.methodLink RL 96 yX11_waiting ∈ q_G := q_tb (i := 380) (by decide +kernel) (by decide +kernel)
theorem mt_X11_waiting : q_Mt yX11_waiting cX11_waiting 5 (some .int) 3 := ⟨q_tb (i := 383) (by decide +kernel) (by decide +kernel), q_tb (i := 1) (by decide +kernel) (by decide +kernel), by decide +kernel, by decide +kernel, by decide +kernel⟩
theorem mi_X11_waiting : Cond.instanceMethod yX11_waiting ∈ q_G ∧ Cond.selects yX11_waiting.cls yX11_waiting yX11_waiting ∈ q_G := ⟨q_tb (i := 381) (by decide +kernel) (by decide +kernel), q_tb (i := 382) (by decide +kernel) (by decide +kernel)⟩
theorem ml_L_99 : Cond.methodLink RL 99 yX12_waiting ∈ q_G := q_tb (i := 2505) (by decide +kernel) (by decide +kernel)
theorem mt_X12_waiting : q_Mt yX12_waiting cX12_waiting 4 (some .int) 3 := ⟨q_tb (i := 2508) (by decide +kernel) (by decide +kernel), q_tb (i := 11) (by decide +kernel) (by decide +kernel), by decide +kernel, by decide +kernel, by decide +kernel⟩
theorem mi_X12_waiting : Cond.instanceMethod yX12_waiting ∈ q_G ∧ Cond.selects yX12_waiting.cls yX12_waiting yX12_waiting ∈ q_G := ⟨q_tb (i := 2506) (by decide +kernel) (by decide +kernel), q_tb (i := 2507) (by decide +kernel) (by decide +kernel)⟩
theorem ml_L_100 : Cond.methodLink RL 100 yX11_region ∈ q_G := q_tb (i := 389) (by decide +kernel) (by decide +kernel)
theorem mt_X11_region : q_Mt yX11_region cX11_region 5 (some .int) 3 := ⟨q_tb (i := 392) (by decide +kernel) (by decide +kernel), q_tb (i := 1) (by decide +kernel) (by decide +kernel), by decide +kernel, by decide +kernel, by decide +kernel⟩
theorem mi_X11_region : Cond.instanceMethod yX11_region ∈ q_G ∧ Cond.selects yX11_region.cls yX11_region yX11_region ∈ q_G := ⟨q_tb (i := 390) (by decide +kernel) (by decide +kernel), q_tb (i := 391) (by decide +kernel) (by decide +kernel)⟩
theorem ml_L_103 : Cond.methodLink RL 103 yX12_region ∈ q_G := q_tb (i := 2509) (by decide +kernel) (by decide +kernel)
theorem mt_X12_region : q_Mt yX12_region cX12_region 5 (some .int) 3 := ⟨q_tb (i := 2512) (by decide +kernel) (by decide +kernel), q_tb (i := 11) (by decide +kernel) (by decide +kernel), by decide +kernel, by decide +kernel, by decide +kernel⟩
theorem mi_X12_region : Cond.instanceMethod yX12_region ∈ q_G ∧ Cond.selects yX12_region.cls yX12_region yX12_region ∈ q_G := ⟨q_tb (i := 2510) (by decide +kernel) (by decide +kernel), q_tb (i := 2511) (by decide +kernel) (by decide +kernel)⟩
theorem ml_L_104 : Cond.methodLink RL 104 yX11_wordOf ∈ q_G := q_tb (i := 397) (by decide +kernel) (by decide +kernel)
theorem mt_X11_wordOf : q_Mt yX11_wordOf cX11_wordOf 6 (some .int) 4 := ⟨q_tb (i := 400) (by decide +kernel) (by decide +kernel), q_tb (i := 1) (by decide +kernel) (by decide +kernel), by decide +kernel, by decide +kernel, by decide +kernel⟩
theorem mi_X11_wordOf : Cond.instanceMethod yX11_wordOf ∈ q_G ∧ Cond.selects yX11_wordOf.cls yX11_wordOf yX11_wordOf ∈ q_G := ⟨q_tb (i := 398) (by decide +kernel) (by decide +kernel), q_tb (i := 399) (by decide +kernel) (by decide +kernel)⟩
theorem ml_L_108 : Cond.methodLink RL 108 yX12_wordOf ∈ q_G := q_tb (i := 2513) (by decide +kernel) (by decide +kernel)
theorem mt_X12_wordOf : q_Mt yX12_wordOf cX12_wordOf 6 (some .int) 4 := ⟨q_tb (i := 2516) (by decide +kernel) (by decide +kernel), q_tb (i := 11) (by decide +kernel) (by decide +kernel), by decide +kernel, by decide +kernel, by decide +kernel⟩
theorem mi_X12_wordOf : Cond.instanceMethod yX12_wordOf ∈ q_G ∧ Cond.selects yX12_wordOf.cls yX12_wordOf yX12_wordOf ∈ q_G := ⟨q_tb (i := 2514) (by decide +kernel) (by decide +kernel), q_tb (i := 2515) (by decide +kernel) (by decide +kernel)⟩
theorem ml_L_109 : Cond.methodLink RL 109 yX11_channel ∈ q_G := q_tb (i := 410) (by decide +kernel) (by decide +kernel)
theorem mt_X11_channel : q_Mt yX11_channel cX11_channel 4 (some .int) 2 := ⟨q_tb (i := 413) (by decide +kernel) (by decide +kernel), q_tb (i := 1) (by decide +kernel) (by decide +kernel), by decide +kernel, by decide +kernel, by decide +kernel⟩
theorem mi_X11_channel : Cond.instanceMethod yX11_channel ∈ q_G ∧ Cond.selects yX11_channel.cls yX11_channel yX11_channel ∈ q_G := ⟨q_tb (i := 411) (by decide +kernel) (by decide +kernel), q_tb (i := 412) (by decide +kernel) (by decide +kernel)⟩
theorem ml_L_112 : Cond.methodLink RL 112 yX12_channel ∈ q_G := q_tb (i := 2517) (by decide +kernel) (by decide +kernel)
theorem mt_X12_channel : q_Mt yX12_channel cX12_channel 3 (some .int) 2 := ⟨q_tb (i := 2520) (by decide +kernel) (by decide +kernel), q_tb (i := 11) (by decide +kernel) (by decide +kernel), by decide +kernel, by decide +kernel, by decide +kernel⟩
theorem mi_X12_channel : Cond.instanceMethod yX12_channel ∈ q_G ∧ Cond.selects yX12_channel.cls yX12_channel yX12_channel ∈ q_G := ⟨q_tb (i := 2518) (by decide +kernel) (by decide +kernel), q_tb (i := 2519) (by decide +kernel) (by decide +kernel)⟩
theorem ml_L_113 : Cond.methodLink RL 113 yX11_wordAt ∈ q_G := q_tb (i := 418) (by decide +kernel) (by decide +kernel)
theorem mt_X11_wordAt : q_Mt yX11_wordAt cX11_wordAt 4 (some .int) 2 := ⟨q_tb (i := 421) (by decide +kernel) (by decide +kernel), q_tb (i := 1) (by decide +kernel) (by decide +kernel), by decide +kernel, by decide +kernel, by decide +kernel⟩
theorem mi_X11_wordAt : Cond.instanceMethod yX11_wordAt ∈ q_G ∧ Cond.selects yX11_wordAt.cls yX11_wordAt yX11_wordAt ∈ q_G := ⟨q_tb (i := 419) (by decide +kernel) (by decide +kernel), q_tb (i := 420) (by decide +kernel) (by decide +kernel)⟩
theorem ml_L_116 : Cond.methodLink RL 116 yX12_wordAt ∈ q_G := q_tb (i := 2525) (by decide +kernel) (by decide +kernel)
theorem mt_X12_wordAt : q_Mt yX12_wordAt cX12_wordAt 3 (some .int) 2 := ⟨q_tb (i := 2528) (by decide +kernel) (by decide +kernel), q_tb (i := 11) (by decide +kernel) (by decide +kernel), by decide +kernel, by decide +kernel, by decide +kernel⟩
theorem mi_X12_wordAt : Cond.instanceMethod yX12_wordAt ∈ q_G ∧ Cond.selects yX12_wordAt.cls yX12_wordAt yX12_wordAt ∈ q_G := ⟨q_tb (i := 2526) (by decide +kernel) (by decide +kernel), q_tb (i := 2527) (by decide +kernel) (by decide +kernel)⟩
theorem ml_L_117 : Cond.methodLink RL 117 yX11_trace ∈ q_G := q_tb (i := 422) (by decide +kernel) (by decide +kernel)
theorem mt_X11_trace : q_Mt yX11_trace cX11_trace 3 (some .int) 2 := ⟨q_tb (i := 425) (by decide +kernel) (by decide +kernel), q_tb (i := 1) (by decide +kernel) (by decide +kernel), by decide +kernel, by decide +kernel, by decide +kernel⟩
theorem mi_X11_trace : Cond.instanceMethod yX11_trace ∈ q_G ∧ Cond.selects yX11_trace.cls yX11_trace yX11_trace ∈ q_G := ⟨q_tb (i := 423) (by decide +kernel) (by decide +kernel), q_tb (i := 424) (by decide +kernel) (by decide +kernel)⟩
theorem ml_L_120 : Cond.methodLink RL 120 yX12_trace ∈ q_G := q_tb (i := 2529) (by decide +kernel) (by decide +kernel)
theorem mt_X12_trace : q_Mt yX12_trace cX12_trace 3 (some .int) 2 := ⟨q_tb (i := 2532) (by decide +kernel) (by decide +kernel), q_tb (i := 11) (by decide +kernel) (by decide +kernel), by decide +kernel, by decide +kernel, by decide +kernel⟩
theorem mi_X12_trace : Cond.instanceMethod yX12_trace ∈ q_G ∧ Cond.selects yX12_trace.cls yX12_trace yX12_trace ∈ q_G := ⟨q_tb (i := 2530) (by decide +kernel) (by decide +kernel), q_tb (i := 2531) (by decide +kernel) (by decide +kernel)⟩
theorem ml_L_121 : Cond.methodLink RL 121 yX11_error ∈ q_G := q_tb (i := 430) (by decide +kernel) (by decide +kernel)
theorem mt_X11_error : q_Mt yX11_error cX11_error 3 (some .int) 2 := ⟨q_tb (i := 433) (by decide +kernel) (by decide +kernel), q_tb (i := 1) (by decide +kernel) (by decide +kernel), by decide +kernel, by decide +kernel, by decide +kernel⟩
theorem mi_X11_error : Cond.instanceMethod yX11_error ∈ q_G ∧ Cond.selects yX11_error.cls yX11_error yX11_error ∈ q_G := ⟨q_tb (i := 431) (by decide +kernel) (by decide +kernel), q_tb (i := 432) (by decide +kernel) (by decide +kernel)⟩
theorem ml_L_124 : Cond.methodLink RL 124 yX12_error ∈ q_G := q_tb (i := 2533) (by decide +kernel) (by decide +kernel)
theorem mt_X12_error : q_Mt yX12_error cX12_error 3 (some .int) 2 := ⟨q_tb (i := 2536) (by decide +kernel) (by decide +kernel), q_tb (i := 11) (by decide +kernel) (by decide +kernel), by decide +kernel, by decide +kernel, by decide +kernel⟩
theorem mi_X12_error : Cond.instanceMethod yX12_error ∈ q_G ∧ Cond.selects yX12_error.cls yX12_error yX12_error ∈ q_G := ⟨q_tb (i := 2534) (by decide +kernel) (by decide +kernel), q_tb (i := 2535) (by decide +kernel) (by decide +kernel)⟩
theorem ml_L_125 : Cond.methodLink RL 125 yX11_about ∈ q_G := q_tb (i := 438) (by decide +kernel) (by decide +kernel)
theorem mt_X11_about : q_Mt yX11_about cX11_about 2 (some .int) 1 := ⟨q_tb (i := 441) (by decide +kernel) (by decide +kernel), q_tb (i := 1) (by decide +kernel) (by decide +kernel), by decide +kernel, by decide +kernel, by decide +kernel⟩
theorem mi_X11_about : Cond.instanceMethod yX11_about ∈ q_G ∧ Cond.selects yX11_about.cls yX11_about yX11_about ∈ q_G := ⟨q_tb (i := 439) (by decide +kernel) (by decide +kernel), q_tb (i := 440) (by decide +kernel) (by decide +kernel)⟩
theorem ml_L_128 : Cond.methodLink RL 128 yX12_about ∈ q_G := q_tb (i := 2537) (by decide +kernel) (by decide +kernel)
theorem mt_X12_about : q_Mt yX12_about cX12_about 2 (some .int) 1 := ⟨q_tb (i := 2540) (by decide +kernel) (by decide +kernel), q_tb (i := 11) (by decide +kernel) (by decide +kernel), by decide +kernel, by decide +kernel, by decide +kernel⟩
theorem mi_X12_about : Cond.instanceMethod yX12_about ∈ q_G ∧ Cond.selects yX12_about.cls yX12_about yX12_about ∈ q_G := ⟨q_tb (i := 2538) (by decide +kernel) (by decide +kernel), q_tb (i := 2539) (by decide +kernel) (by decide +kernel)⟩
theorem ib_X11 : Cond.instantiable RX11 5 ∈ q_G := q_tb (i := 30) (by decide +kernel) (by decide +kernel)
theorem in_X11 : Cond.initialized RX11 ∈ q_G := q_tb (i := 1) (by decide +kernel) (by decide +kernel)
theorem dv_X11 : ∀ k, k < 5 → defaultValue (tyX11 k) = vp_V ((q_F 11).map (fun q => q_dv q.1)) k := by decide +kernel
theorem ml_L_33 : Cond.methodLink RL 33 yX11_init ∈ q_G := q_tb (i := 31) (by decide +kernel) (by decide +kernel)
theorem mt_X11_init : q_Mt yX11_init cX11_init 1 none 0 := ⟨q_tb (i := 33) (by decide +kernel) (by decide +kernel), q_tb (i := 1) (by decide +kernel) (by decide +kernel), by decide +kernel, by decide +kernel, by decide +kernel⟩
theorem mj_X11_init : Cond.instanceMethod yX11_init ∈ q_G := q_tb (i := 32) (by decide +kernel) (by decide +kernel)
theorem ib_X12 : Cond.instantiable RX12 114 ∈ q_G := q_tb (i := 1728) (by decide +kernel) (by decide +kernel)
theorem in_X12 : Cond.initialized RX12 ∈ q_G := q_tb (i := 11) (by decide +kernel) (by decide +kernel)
theorem dv_X12 : ∀ k, k < 114 → defaultValue (tyX12 k) = vp_V ((q_F 12).map (fun q => q_dv q.1)) k := by decide +kernel
theorem ml_L_36 : Cond.methodLink RL 36 yX12_init ∈ q_G := q_tb (i := 1729) (by decide +kernel) (by decide +kernel)
theorem mt_X12_init : q_Mt yX12_init cX12_init 1 none 0 := ⟨List.mem_filter.mpr ⟨List.mem_append_right _ (List.mem_append_right _ (List.mem_append_right _ (List.mem_append_right _ (List.mem_append_right _ (List.mem_append_right _ (List.mem_append_right _ (List.mem_append_right _ (List.mem_append_left _ (List.mem_of_getElem? (i := 51) rfl))))))))), by decide +kernel⟩, q_tb (i := 11) (by decide +kernel) (by decide +kernel), by decide +kernel, by decide +kernel, by decide +kernel⟩
theorem mj_X12_init : Cond.instanceMethod yX12_init ∈ q_G := q_tb (i := 1730) (by decide +kernel) (by decide +kernel)
