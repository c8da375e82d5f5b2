set_option maxRecDepth 100000 in
theorem zw266 : Cond.methodLink RL 13 yX8_object ∈ zbg := zin 266 rfl rfl
set_option maxRecDepth 100000 in
theorem zw267 : Cond.instanceMethod yX8_object ∈ zbg := zin 267 rfl rfl
set_option maxRecDepth 100000 in
theorem zw268 : Cond.selects RX8 yX8_object yX8_object ∈ zbg := zin 268 rfl rfl
set_option maxRecDepth 100000 in
theorem zw269 : Cond.code yX8_object prog_1_method_2_code 1 (some .int) ∈ zbg := zin 269 rfl rfl
set_option maxRecDepth 100000 in
theorem zw290 : Cond.methodLink RL 18 yX8_value ∈ zbg := zin 290 rfl rfl
set_option maxRecDepth 100000 in
theorem zw291 : Cond.instanceMethod yX8_value ∈ zbg := zin 291 rfl rfl
set_option maxRecDepth 100000 in
theorem zw292 : Cond.selects RX8 yX8_value yX8_value ∈ zbg := zin 292 rfl rfl
set_option maxRecDepth 100000 in
theorem zw293 : Cond.code yX8_value prog_1_method_3_code 4 (some .int) ∈ zbg := zin 293 rfl rfl
set_option maxRecDepth 100000 in
theorem zw315 : Cond.methodLink RL 23 yX8_match ∈ zbg := zin 315 rfl rfl
set_option maxRecDepth 100000 in
theorem zw316 : Cond.instanceMethod yX8_match ∈ zbg := zin 316 rfl rfl
set_option maxRecDepth 100000 in
theorem zw317 : Cond.selects RX8 yX8_match yX8_match ∈ zbg := zin 317 rfl rfl
set_option maxRecDepth 100000 in
theorem zw318 : Cond.code yX8_match prog_1_method_4_code 4 (some .int) ∈ zbg := zin 318 rfl rfl
set_option maxRecDepth 100000 in
theorem zw319 : Cond.methodLink RL 28 yX8_clear ∈ zbg := zin 319 rfl rfl
set_option maxRecDepth 100000 in
theorem zw320 : Cond.instanceMethod yX8_clear ∈ zbg := zin 320 rfl rfl
set_option maxRecDepth 100000 in
theorem zw321 : Cond.selects RX8 yX8_clear yX8_clear ∈ zbg := zin 321 rfl rfl
set_option maxRecDepth 100000 in
theorem zw322 : Cond.code yX8_clear prog_1_method_5_code 2 (some .int) ∈ zbg := zin 322 rfl rfl
set_option maxRecDepth 100000 in
theorem zw323 : Cond.methodLink RL 32 yX8_facet ∈ zbg := zin 323 rfl rfl
set_option maxRecDepth 100000 in
theorem zw324 : Cond.instanceMethod yX8_facet ∈ zbg := zin 324 rfl rfl
set_option maxRecDepth 100000 in
theorem zw325 : Cond.selects RX8 yX8_facet yX8_facet ∈ zbg := zin 325 rfl rfl
set_option maxRecDepth 100000 in
theorem zw326 : Cond.code yX8_facet prog_1_method_6_code 5 (some .int) ∈ zbg := zin 326 rfl rfl
set_option maxRecDepth 100000 in
theorem zw333 : Cond.methodLink RL 37 yX8_range ∈ zbg := zin 333 rfl rfl
set_option maxRecDepth 100000 in
theorem zw334 : Cond.instanceMethod yX8_range ∈ zbg := zin 334 rfl rfl
set_option maxRecDepth 100000 in
theorem zw335 : Cond.selects RX8 yX8_range yX8_range ∈ zbg := zin 335 rfl rfl
set_option maxRecDepth 100000 in
theorem zw336 : Cond.code yX8_range prog_1_method_7_code 5 (some .int) ∈ zbg := zin 336 rfl rfl
set_option maxRecDepth 100000 in
theorem zw346 : Cond.methodLink RL 41 yX8_filter ∈ zbg := zin 346 rfl rfl
set_option maxRecDepth 100000 in
theorem zw347 : Cond.instanceMethod yX8_filter ∈ zbg := zin 347 rfl rfl
set_option maxRecDepth 100000 in
theorem zw348 : Cond.selects RX8 yX8_filter yX8_filter ∈ zbg := zin 348 rfl rfl
set_option maxRecDepth 100000 in
theorem zw349 : Cond.code yX8_filter prog_1_method_8_code 7 (some .int) ∈ zbg := zin 349 rfl rfl
set_option maxRecDepth 100000 in
theorem zw350 : Cond.methodLink RL 45 yX8_least ∈ zbg := zin 350 rfl rfl
set_option maxRecDepth 100000 in
theorem zw351 : Cond.instanceMethod yX8_least ∈ zbg := zin 351 rfl rfl
set_option maxRecDepth 100000 in
theorem zw352 : Cond.selects RX8 yX8_least yX8_least ∈ zbg := zin 352 rfl rfl
set_option maxRecDepth 100000 in
theorem zw353 : Cond.code yX8_least prog_1_method_9_code 5 (some .int) ∈ zbg := zin 353 rfl rfl
set_option maxRecDepth 100000 in
theorem zw354 : Cond.methodLink RL 50 yX8_missing ∈ zbg := zin 354 rfl rfl
set_option maxRecDepth 100000 in
theorem zw355 : Cond.instanceMethod yX8_missing ∈ zbg := zin 355 rfl rfl
set_option maxRecDepth 100000 in
theorem zw356 : Cond.selects RX8 yX8_missing yX8_missing ∈ zbg := zin 356 rfl rfl
set_option maxRecDepth 100000 in
theorem zw357 : Cond.code yX8_missing prog_1_method_10_code 5 (some .int) ∈ zbg := zin 357 rfl rfl
set_option maxRecDepth 100000 in
theorem zw358 : Cond.methodLink RL 54 yX8_order ∈ zbg := zin 358 rfl rfl
set_option maxRecDepth 100000 in
theorem zw359 : Cond.instanceMethod yX8_order ∈ zbg := zin 359 rfl rfl
set_option maxRecDepth 100000 in
theorem zw360 : Cond.selects RX8 yX8_order yX8_order ∈ zbg := zin 360 rfl rfl
set_option maxRecDepth 100000 in
theorem zw361 : Cond.code yX8_order prog_1_method_11_code 6 (some .int) ∈ zbg := zin 361 rfl rfl
set_option maxRecDepth 100000 in
theorem zw362 : Cond.methodLink RL 58 yX8_groups ∈ zbg := zin 362 rfl rfl
set_option maxRecDepth 100000 in
theorem zw363 : Cond.instanceMethod yX8_groups ∈ zbg := zin 363 rfl rfl
set_option maxRecDepth 100000 in
theorem zw364 : Cond.selects RX8 yX8_groups yX8_groups ∈ zbg := zin 364 rfl rfl
set_option maxRecDepth 100000 in
theorem zw365 : Cond.code yX8_groups prog_1_method_12_code 3 (some .int) ∈ zbg := zin 365 rfl rfl
set_option maxRecDepth 100000 in
theorem zw484 : Cond.methodLink RL 63 yX8_group ∈ zbg := zin 484 rfl rfl
set_option maxRecDepth 100000 in
theorem zw485 : Cond.instanceMethod yX8_group ∈ zbg := zin 485 rfl rfl
set_option maxRecDepth 100000 in
theorem zw486 : Cond.selects RX8 yX8_group yX8_group ∈ zbg := zin 486 rfl rfl
set_option maxRecDepth 100000 in
theorem zw487 : Cond.code yX8_group prog_1_method_13_code 5 (some .int) ∈ zbg := zin 487 rfl rfl
set_option maxRecDepth 100000 in
theorem zw511 : Cond.methodLink RL 67 yX8_find ∈ zbg := zin 511 rfl rfl
set_option maxRecDepth 100000 in
theorem zw512 : Cond.instanceMethod yX8_find ∈ zbg := zin 512 rfl rfl
set_option maxRecDepth 100000 in
theorem zw513 : Cond.selects RX8 yX8_find yX8_find ∈ zbg := zin 513 rfl rfl
set_option maxRecDepth 100000 in
theorem zw514 : Cond.code yX8_find prog_1_method_14_code 4 (some .int) ∈ zbg := zin 514 rfl rfl
set_option maxRecDepth 100000 in
theorem zw520 : Cond.methodLink RL 71 yX8_in ∈ zbg := zin 520 rfl rfl
set_option maxRecDepth 100000 in
theorem zw521 : Cond.instanceMethod yX8_in ∈ zbg := zin 521 rfl rfl
set_option maxRecDepth 100000 in
theorem zw522 : Cond.selects RX8 yX8_in yX8_in ∈ zbg := zin 522 rfl rfl
set_option maxRecDepth 100000 in
theorem zw523 : Cond.code yX8_in prog_1_method_15_code 5 (some .int) ∈ zbg := zin 523 rfl rfl
set_option maxRecDepth 100000 in
theorem zw533 : Cond.methodLink RL 75 yX8_enter ∈ zbg := zin 533 rfl rfl
set_option maxRecDepth 100000 in
theorem zw534 : Cond.instanceMethod yX8_enter ∈ zbg := zin 534 rfl rfl
set_option maxRecDepth 100000 in
theorem zw535 : Cond.selects RX8 yX8_enter yX8_enter ∈ zbg := zin 535 rfl rfl
set_option maxRecDepth 100000 in
theorem zw536 : Cond.code yX8_enter prog_1_method_16_code 6 (some .int) ∈ zbg := zin 536 rfl rfl
set_option maxRecDepth 100000 in
theorem zw546 : Cond.methodLink RL 79 yX8_leave ∈ zbg := zin 546 rfl rfl
set_option maxRecDepth 100000 in
theorem zw547 : Cond.instanceMethod yX8_leave ∈ zbg := zin 547 rfl rfl
set_option maxRecDepth 100000 in
theorem zw548 : Cond.selects RX8 yX8_leave yX8_leave ∈ zbg := zin 548 rfl rfl
set_option maxRecDepth 100000 in
theorem zw549 : Cond.code yX8_leave prog_1_method_17_code 1 (some .int) ∈ zbg := zin 549 rfl rfl
set_option maxRecDepth 100000 in
theorem zw554 : Cond.methodLink RL 83 yX8_hand ∈ zbg := zin 554 rfl rfl
set_option maxRecDepth 100000 in
theorem zw555 : Cond.instanceMethod yX8_hand ∈ zbg := zin 555 rfl rfl
set_option maxRecDepth 100000 in
theorem zw556 : Cond.selects RX8 yX8_hand yX8_hand ∈ zbg := zin 556 rfl rfl
set_option maxRecDepth 100000 in
theorem zw557 : Cond.code yX8_hand prog_1_method_18_code 3 (some .int) ∈ zbg := zin 557 rfl rfl
set_option maxRecDepth 100000 in
theorem zw559 : Cond.methodLink RL 87 yX8_figure ∈ zbg := zin 559 rfl rfl
set_option maxRecDepth 100000 in
theorem zw560 : Cond.instanceMethod yX8_figure ∈ zbg := zin 560 rfl rfl
set_option maxRecDepth 100000 in
theorem zw561 : Cond.selects RX8 yX8_figure yX8_figure ∈ zbg := zin 561 rfl rfl
set_option maxRecDepth 100000 in
theorem zw562 : Cond.code yX8_figure prog_1_method_19_code 5 (some .long) ∈ zbg := zin 562 rfl rfl
set_option maxRecDepth 100000 in
theorem zw597 : Cond.methodLink RL 92 yX8_place ∈ zbg := zin 597 rfl rfl
set_option maxRecDepth 100000 in
theorem zw598 : Cond.instanceMethod yX8_place ∈ zbg := zin 598 rfl rfl
set_option maxRecDepth 100000 in
theorem zw599 : Cond.selects RX8 yX8_place yX8_place ∈ zbg := zin 599 rfl rfl
set_option maxRecDepth 100000 in
theorem zw600 : Cond.code yX8_place prog_1_method_20_code 5 (some .int) ∈ zbg := zin 600 rfl rfl
set_option maxRecDepth 100000 in
theorem zw608 : Cond.methodLink RL 96 yX8_told ∈ zbg := zin 608 rfl rfl
set_option maxRecDepth 100000 in
theorem zw609 : Cond.instanceMethod yX8_told ∈ zbg := zin 609 rfl rfl
set_option maxRecDepth 100000 in
theorem zw610 : Cond.selects RX8 yX8_told yX8_told ∈ zbg := zin 610 rfl rfl
set_option maxRecDepth 100000 in
theorem zw611 : Cond.code yX8_told prog_1_method_21_code 2 (some .int) ∈ zbg := zin 611 rfl rfl
set_option maxRecDepth 100000 in
theorem zw722 : Cond.methodLink RL 17 yX9_object ∈ zbg := zin 722 rfl rfl
set_option maxRecDepth 100000 in
theorem zw723 : Cond.instanceMethod yX9_object ∈ zbg := zin 723 rfl rfl
set_option maxRecDepth 100000 in
theorem zw724 : Cond.selects RX9 yX9_object yX9_object ∈ zbg := zin 724 rfl rfl
set_option maxRecDepth 100000 in
theorem zw725 : Cond.code yX9_object prog_11_method_8_code 2 (some .int) ∈ zbg := zin 725 rfl rfl
set_option maxRecDepth 100000 in
theorem zw731 : Cond.methodLink RL 22 yX9_value ∈ zbg := zin 731 rfl rfl
set_option maxRecDepth 100000 in
theorem zw732 : Cond.instanceMethod yX9_value ∈ zbg := zin 732 rfl rfl
set_option maxRecDepth 100000 in
theorem zw733 : Cond.selects RX9 yX9_value yX9_value ∈ zbg := zin 733 rfl rfl
set_option maxRecDepth 100000 in
theorem zw734 : Cond.code yX9_value prog_11_method_9_code 5 (some .int) ∈ zbg := zin 734 rfl rfl
set_option maxRecDepth 100000 in
theorem zw751 : Cond.methodLink RL 27 yX9_match ∈ zbg := zin 751 rfl rfl
set_option maxRecDepth 100000 in
theorem zw752 : Cond.instanceMethod yX9_match ∈ zbg := zin 752 rfl rfl
set_option maxRecDepth 100000 in
theorem zw753 : Cond.selects RX9 yX9_match yX9_match ∈ zbg := zin 753 rfl rfl
set_option maxRecDepth 100000 in
theorem zw754 : Cond.code yX9_match prog_11_method_10_code 4 (some .int) ∈ zbg := zin 754 rfl rfl
set_option maxRecDepth 100000 in
theorem zw755 : Cond.methodLink RL 31 yX9_clear ∈ zbg := zin 755 rfl rfl
set_option maxRecDepth 100000 in
theorem zw756 : Cond.instanceMethod yX9_clear ∈ zbg := zin 756 rfl rfl
set_option maxRecDepth 100000 in
theorem zw757 : Cond.selects RX9 yX9_clear yX9_clear ∈ zbg := zin 757 rfl rfl
set_option maxRecDepth 100000 in
theorem zw758 : Cond.code yX9_clear prog_11_method_11_code 2 (some .int) ∈ zbg := zin 758 rfl rfl
set_option maxRecDepth 100000 in
theorem zw759 : Cond.methodLink RL 36 yX9_facet ∈ zbg := zin 759 rfl rfl
set_option maxRecDepth 100000 in
theorem zw760 : Cond.instanceMethod yX9_facet ∈ zbg := zin 760 rfl rfl
set_option maxRecDepth 100000 in
theorem zw761 : Cond.selects RX9 yX9_facet yX9_facet ∈ zbg := zin 761 rfl rfl
set_option maxRecDepth 100000 in
theorem zw762 : Cond.code yX9_facet prog_11_method_12_code 6 (some .int) ∈ zbg := zin 762 rfl rfl
set_option maxRecDepth 100000 in
theorem zw765 : Cond.methodLink RL 40 yX9_range ∈ zbg := zin 765 rfl rfl
set_option maxRecDepth 100000 in
theorem zw766 : Cond.instanceMethod yX9_range ∈ zbg := zin 766 rfl rfl
set_option maxRecDepth 100000 in
theorem zw767 : Cond.selects RX9 yX9_range yX9_range ∈ zbg := zin 767 rfl rfl
set_option maxRecDepth 100000 in
theorem zw768 : Cond.code yX9_range prog_11_method_13_code 4 (some .int) ∈ zbg := zin 768 rfl rfl
set_option maxRecDepth 100000 in
theorem zw774 : Cond.methodLink RL 44 yX9_filter ∈ zbg := zin 774 rfl rfl
set_option maxRecDepth 100000 in
theorem zw775 : Cond.instanceMethod yX9_filter ∈ zbg := zin 775 rfl rfl
set_option maxRecDepth 100000 in
theorem zw776 : Cond.selects RX9 yX9_filter yX9_filter ∈ zbg := zin 776 rfl rfl
set_option maxRecDepth 100000 in
theorem zw777 : Cond.code yX9_filter prog_11_method_14_code 6 (some .int) ∈ zbg := zin 777 rfl rfl
set_option maxRecDepth 100000 in
theorem zw778 : Cond.methodLink RL 49 yX9_least ∈ zbg := zin 778 rfl rfl
set_option maxRecDepth 100000 in
theorem zw779 : Cond.instanceMethod yX9_least ∈ zbg := zin 779 rfl rfl
set_option maxRecDepth 100000 in
theorem zw780 : Cond.selects RX9 yX9_least yX9_least ∈ zbg := zin 780 rfl rfl
set_option maxRecDepth 100000 in
theorem zw781 : Cond.code yX9_least prog_11_method_15_code 4 (some .int) ∈ zbg := zin 781 rfl rfl
set_option maxRecDepth 100000 in
theorem zw782 : Cond.methodLink RL 53 yX9_missing ∈ zbg := zin 782 rfl rfl
set_option maxRecDepth 100000 in
theorem zw783 : Cond.instanceMethod yX9_missing ∈ zbg := zin 783 rfl rfl
set_option maxRecDepth 100000 in
theorem zw784 : Cond.selects RX9 yX9_missing yX9_missing ∈ zbg := zin 784 rfl rfl
set_option maxRecDepth 100000 in
theorem zw785 : Cond.code yX9_missing prog_11_method_16_code 4 (some .int) ∈ zbg := zin 785 rfl rfl
set_option maxRecDepth 100000 in
theorem zw786 : Cond.methodLink RL 57 yX9_order ∈ zbg := zin 786 rfl rfl
set_option maxRecDepth 100000 in
theorem zw787 : Cond.instanceMethod yX9_order ∈ zbg := zin 787 rfl rfl
set_option maxRecDepth 100000 in
theorem zw788 : Cond.selects RX9 yX9_order yX9_order ∈ zbg := zin 788 rfl rfl
set_option maxRecDepth 100000 in
theorem zw789 : Cond.code yX9_order prog_11_method_17_code 5 (some .int) ∈ zbg := zin 789 rfl rfl
set_option maxRecDepth 100000 in
theorem zw790 : Cond.methodLink RL 62 yX9_groups ∈ zbg := zin 790 rfl rfl
set_option maxRecDepth 100000 in
theorem zw791 : Cond.instanceMethod yX9_groups ∈ zbg := zin 791 rfl rfl
set_option maxRecDepth 100000 in
theorem zw792 : Cond.selects RX9 yX9_groups yX9_groups ∈ zbg := zin 792 rfl rfl
set_option maxRecDepth 100000 in
theorem zw793 : Cond.code yX9_groups prog_11_method_39_code 2 (some .int) ∈ zbg := zin 793 rfl rfl
set_option maxRecDepth 100000 in
theorem zw872 : Cond.methodLink RL 66 yX9_group ∈ zbg := zin 872 rfl rfl
set_option maxRecDepth 100000 in
theorem zw873 : Cond.instanceMethod yX9_group ∈ zbg := zin 873 rfl rfl
set_option maxRecDepth 100000 in
theorem zw874 : Cond.selects RX9 yX9_group yX9_group ∈ zbg := zin 874 rfl rfl
set_option maxRecDepth 100000 in
theorem zw875 : Cond.code yX9_group prog_11_method_40_code 4 (some .int) ∈ zbg := zin 875 rfl rfl
set_option maxRecDepth 100000 in
theorem zw880 : Cond.methodLink RL 70 yX9_find ∈ zbg := zin 880 rfl rfl
set_option maxRecDepth 100000 in
theorem zw881 : Cond.instanceMethod yX9_find ∈ zbg := zin 881 rfl rfl
set_option maxRecDepth 100000 in
theorem zw882 : Cond.selects RX9 yX9_find yX9_find ∈ zbg := zin 882 rfl rfl
set_option maxRecDepth 100000 in
theorem zw883 : Cond.code yX9_find prog_11_method_41_code 4 (some .int) ∈ zbg := zin 883 rfl rfl
set_option maxRecDepth 100000 in
theorem zw884 : Cond.methodLink RL 74 yX9_in ∈ zbg := zin 884 rfl rfl
set_option maxRecDepth 100000 in
theorem zw885 : Cond.instanceMethod yX9_in ∈ zbg := zin 885 rfl rfl
set_option maxRecDepth 100000 in
theorem zw886 : Cond.selects RX9 yX9_in yX9_in ∈ zbg := zin 886 rfl rfl
set_option maxRecDepth 100000 in
theorem zw887 : Cond.code yX9_in prog_11_method_42_code 4 (some .int) ∈ zbg := zin 887 rfl rfl
set_option maxRecDepth 100000 in
theorem zw888 : Cond.methodLink RL 78 yX9_enter ∈ zbg := zin 888 rfl rfl
set_option maxRecDepth 100000 in
theorem zw889 : Cond.instanceMethod yX9_enter ∈ zbg := zin 889 rfl rfl
set_option maxRecDepth 100000 in
theorem zw890 : Cond.selects RX9 yX9_enter yX9_enter ∈ zbg := zin 890 rfl rfl
set_option maxRecDepth 100000 in
theorem zw891 : Cond.code yX9_enter prog_11_method_43_code 4 (some .int) ∈ zbg := zin 891 rfl rfl
set_option maxRecDepth 100000 in
theorem zw896 : Cond.methodLink RL 82 yX9_leave ∈ zbg := zin 896 rfl rfl
set_option maxRecDepth 100000 in
theorem zw897 : Cond.instanceMethod yX9_leave ∈ zbg := zin 897 rfl rfl
set_option maxRecDepth 100000 in
theorem zw898 : Cond.selects RX9 yX9_leave yX9_leave ∈ zbg := zin 898 rfl rfl
set_option maxRecDepth 100000 in
theorem zw899 : Cond.code yX9_leave prog_11_method_44_code 1 (some .int) ∈ zbg := zin 899 rfl rfl
set_option maxRecDepth 100000 in
theorem zw900 : Cond.methodLink RL 86 yX9_hand ∈ zbg := zin 900 rfl rfl
set_option maxRecDepth 100000 in
theorem zw901 : Cond.methodLink RL 91 yX9_figure ∈ zbg := zin 901 rfl rfl
set_option maxRecDepth 100000 in
theorem zw902 : Cond.instanceMethod yX9_figure ∈ zbg := zin 902 rfl rfl
set_option maxRecDepth 100000 in
theorem zw903 : Cond.selects RX9 yX9_figure yX9_figure ∈ zbg := zin 903 rfl rfl
set_option maxRecDepth 100000 in
theorem zw904 : Cond.code yX9_figure prog_11_method_48_code 9 (some .long) ∈ zbg := zin 904 rfl rfl
set_option maxRecDepth 100000 in
theorem zw915 : Cond.methodLink RL 95 yX9_place ∈ zbg := zin 915 rfl rfl
set_option maxRecDepth 100000 in
theorem zw916 : Cond.instanceMethod yX9_place ∈ zbg := zin 916 rfl rfl
set_option maxRecDepth 100000 in
theorem zw917 : Cond.selects RX9 yX9_place yX9_place ∈ zbg := zin 917 rfl rfl
set_option maxRecDepth 100000 in
theorem zw918 : Cond.code yX9_place prog_11_method_49_code 6 (some .int) ∈ zbg := zin 918 rfl rfl
set_option maxRecDepth 100000 in
theorem zw919 : Cond.methodLink RL 99 yX9_told ∈ zbg := zin 919 rfl rfl
set_option maxRecDepth 100000 in
theorem zw920 : Cond.instanceMethod yX9_told ∈ zbg := zin 920 rfl rfl
set_option maxRecDepth 100000 in
theorem zw921 : Cond.selects RX9 yX9_told yX9_told ∈ zbg := zin 921 rfl rfl
set_option maxRecDepth 100000 in
theorem zw922 : Cond.code yX9_told prog_11_method_50_code 4 (some .int) ∈ zbg := zin 922 rfl rfl
set_option maxRecDepth 100000 in
theorem zkX8_object : zkV RX8 yX8_object cX8_object 1 (some .int) 0 := ⟨zw267, zw268, zw40, zw269, rfl, by decide, by decide, by decide +kernel⟩
set_option maxRecDepth 100000 in
theorem zkX9_object : zkV RX9 yX9_object cX9_object 2 (some .int) 0 := ⟨zw723, zw724, zw48, zw725, rfl, by decide, by decide, by decide +kernel⟩
set_option maxRecDepth 100000 in
theorem zkX8_value : zkV RX8 yX8_value cX8_value 4 (some .int) 3 := ⟨zw291, zw292, zw40, zw293, rfl, by decide, by decide, by decide +kernel⟩
set_option maxRecDepth 100000 in
theorem zkX9_value : zkV RX9 yX9_value cX9_value 5 (some .int) 3 := ⟨zw732, zw733, zw48, zw734, rfl, by decide, by decide, by decide +kernel⟩
set_option maxRecDepth 100000 in
theorem zkX8_match : zkV RX8 yX8_match cX8_match 4 (some .int) 2 := ⟨zw316, zw317, zw40, zw318, rfl, by decide, by decide, by decide +kernel⟩
set_option maxRecDepth 100000 in
theorem zkX9_match : zkV RX9 yX9_match cX9_match 4 (some .int) 2 := ⟨zw752, zw753, zw48, zw754, rfl, by decide, by decide, by decide +kernel⟩
set_option maxRecDepth 100000 in
theorem zkX8_clear : zkV RX8 yX8_clear cX8_clear 2 (some .int) 0 := ⟨zw320, zw321, zw40, zw322, rfl, by decide, by decide, by decide +kernel⟩
set_option maxRecDepth 100000 in
theorem zkX9_clear : zkV RX9 yX9_clear cX9_clear 2 (some .int) 0 := ⟨zw756, zw757, zw48, zw758, rfl, by decide, by decide, by decide +kernel⟩
set_option maxRecDepth 100000 in
theorem zkX8_facet : zkV RX8 yX8_facet cX8_facet 5 (some .int) 4 := ⟨zw324, zw325, zw40, zw326, rfl, by decide, by decide, by decide +kernel⟩
set_option maxRecDepth 100000 in
theorem zkX9_facet : zkV RX9 yX9_facet cX9_facet 6 (some .int) 4 := ⟨zw760, zw761, zw48, zw762, rfl, by decide, by decide, by decide +kernel⟩
set_option maxRecDepth 100000 in
theorem zkX8_range : zkV RX8 yX8_range cX8_range 5 (some .int) 3 := ⟨zw334, zw335, zw40, zw336, rfl, by decide, by decide, by decide +kernel⟩
set_option maxRecDepth 100000 in
theorem zkX9_range : zkV RX9 yX9_range cX9_range 4 (some .int) 3 := ⟨zw766, zw767, zw48, zw768, rfl, by decide, by decide, by decide +kernel⟩
set_option maxRecDepth 100000 in
theorem zkX8_filter : zkV RX8 yX8_filter cX8_filter 7 (some .int) 4 := ⟨zw347, zw348, zw40, zw349, rfl, by decide, by decide, by decide +kernel⟩
set_option maxRecDepth 100000 in
theorem zkX9_filter : zkV RX9 yX9_filter cX9_filter 6 (some .int) 4 := ⟨zw775, zw776, zw48, zw777, rfl, by decide, by decide, by decide +kernel⟩
set_option maxRecDepth 100000 in
theorem zkX8_least : zkV RX8 yX8_least cX8_least 5 (some .int) 2 := ⟨zw351, zw352, zw40, zw353, rfl, by decide, by decide, by decide +kernel⟩
set_option maxRecDepth 100000 in
theorem zkX9_least : zkV RX9 yX9_least cX9_least 4 (some .int) 2 := ⟨zw779, zw780, zw48, zw781, rfl, by decide, by decide, by decide +kernel⟩
set_option maxRecDepth 100000 in
theorem zkX8_missing : zkV RX8 yX8_missing cX8_missing 5 (some .int) 2 := ⟨zw355, zw356, zw40, zw357, rfl, by decide, by decide, by decide +kernel⟩
set_option maxRecDepth 100000 in
theorem zkX9_missing : zkV RX9 yX9_missing cX9_missing 4 (some .int) 2 := ⟨zw783, zw784, zw48, zw785, rfl, by decide, by decide, by decide +kernel⟩
set_option maxRecDepth 100000 in
theorem zkX8_order : zkV RX8 yX8_order cX8_order 6 (some .int) 3 := ⟨zw359, zw360, zw40, zw361, rfl, by decide, by decide, by decide +kernel⟩
set_option maxRecDepth 100000 in
theorem zkX9_order : zkV RX9 yX9_order cX9_order 5 (some .int) 3 := ⟨zw787, zw788, zw48, zw789, rfl, by decide, by decide, by decide +kernel⟩
set_option maxRecDepth 100000 in
theorem zkX8_groups : zkV RX8 yX8_groups cX8_groups 3 (some .int) 1 := ⟨zw363, zw364, zw40, zw365, rfl, by decide, by decide, by decide +kernel⟩
set_option maxRecDepth 100000 in
theorem zkX9_groups : zkV RX9 yX9_groups cX9_groups 2 (some .int) 1 := ⟨zw791, zw792, zw48, zw793, rfl, by decide, by decide, by decide +kernel⟩
set_option maxRecDepth 100000 in
theorem zkX8_group : zkV RX8 yX8_group cX8_group 5 (some .int) 3 := ⟨zw485, zw486, zw40, zw487, rfl, by decide, by decide, by decide +kernel⟩
set_option maxRecDepth 100000 in
theorem zkX9_group : zkV RX9 yX9_group cX9_group 4 (some .int) 3 := ⟨zw873, zw874, zw48, zw875, rfl, by decide, by decide, by decide +kernel⟩
set_option maxRecDepth 100000 in
theorem zkX8_find : zkV RX8 yX8_find cX8_find 4 (some .int) 2 := ⟨zw512, zw513, zw40, zw514, rfl, by decide, by decide, by decide +kernel⟩
set_option maxRecDepth 100000 in
theorem zkX9_find : zkV RX9 yX9_find cX9_find 4 (some .int) 2 := ⟨zw881, zw882, zw48, zw883, rfl, by decide, by decide, by decide +kernel⟩
set_option maxRecDepth 100000 in
theorem zkX8_in : zkV RX8 yX8_in cX8_in 5 (some .int) 3 := ⟨zw521, zw522, zw40, zw523, rfl, by decide, by decide, by decide +kernel⟩
set_option maxRecDepth 100000 in
theorem zkX9_in : zkV RX9 yX9_in cX9_in 4 (some .int) 3 := ⟨zw885, zw886, zw48, zw887, rfl, by decide, by decide, by decide +kernel⟩
set_option maxRecDepth 100000 in
theorem zkX8_enter : zkV RX8 yX8_enter cX8_enter 6 (some .int) 2 := ⟨zw534, zw535, zw40, zw536, rfl, by decide, by decide, by decide +kernel⟩
set_option maxRecDepth 100000 in
theorem zkX9_enter : zkV RX9 yX9_enter cX9_enter 4 (some .int) 2 := ⟨zw889, zw890, zw48, zw891, rfl, by decide, by decide, by decide +kernel⟩
set_option maxRecDepth 100000 in
theorem zkX8_leave : zkV RX8 yX8_leave cX8_leave 1 (some .int) 0 := ⟨zw547, zw548, zw40, zw549, rfl, by decide, by decide, by decide +kernel⟩
set_option maxRecDepth 100000 in
theorem zkX9_leave : zkV RX9 yX9_leave cX9_leave 1 (some .int) 0 := ⟨zw897, zw898, zw48, zw899, rfl, by decide, by decide, by decide +kernel⟩
set_option maxRecDepth 100000 in
theorem zkX8_hand : zkV RX8 yX8_hand cX8_hand 3 (some .int) 0 := ⟨zw555, zw556, zw40, zw557, rfl, by decide, by decide, by decide +kernel⟩
set_option maxRecDepth 100000 in
theorem zkX8_figure : zkV RX8 yX8_figure cX8_figure 5 (some .long) 4 := ⟨zw560, zw561, zw40, zw562, rfl, by decide, by decide, by decide +kernel⟩
set_option maxRecDepth 100000 in
theorem zkX9_figure : zkV RX9 yX9_figure cX9_figure 9 (some .long) 4 := ⟨zw902, zw903, zw48, zw904, rfl, by decide, by decide, by decide +kernel⟩
set_option maxRecDepth 100000 in
theorem zkX8_place : zkV RX8 yX8_place cX8_place 5 (some .int) 4 := ⟨zw598, zw599, zw40, zw600, rfl, by decide, by decide, by decide +kernel⟩
set_option maxRecDepth 100000 in
theorem zkX9_place : zkV RX9 yX9_place cX9_place 6 (some .int) 4 := ⟨zw916, zw917, zw48, zw918, rfl, by decide, by decide, by decide +kernel⟩
set_option maxRecDepth 100000 in
theorem zkX8_told : zkV RX8 yX8_told cX8_told 2 (some .int) 1 := ⟨zw609, zw610, zw40, zw611, rfl, by decide, by decide, by decide +kernel⟩
set_option maxRecDepth 100000 in
theorem zkX9_told : zkV RX9 yX9_told cX9_told 4 (some .int) 1 := ⟨zw920, zw921, zw48, zw922, rfl, by decide, by decide, by decide +kernel⟩
