set_option maxRecDepth 100000 in
theorem zw17 : Cond.selects RX9 yX9_changes yX9_changes ∈ zbg := zin 17 rfl rfl
set_option maxRecDepth 100000 in
theorem zw18 : Cond.selects RX9 yX9_isObject yX9_isObject ∈ zbg := zin 18 rfl rfl
set_option maxRecDepth 100000 in
theorem zw19 : Cond.selects RX9 yX9_isFacet yX9_isFacet ∈ zbg := zin 19 rfl rfl
set_option maxRecDepth 100000 in
theorem zw20 : Cond.selects RX9 yX9_findGroups yX9_findGroups ∈ zbg := zin 20 rfl rfl
set_option maxRecDepth 100000 in
theorem zw21 : Cond.selects RX9 yX9_findKeys yX9_findKeys ∈ zbg := zin 21 rfl rfl
set_option maxRecDepth 100000 in
theorem zw22 : Cond.selects RX9 yX9_findKeysOf yX9_findKeysOf ∈ zbg := zin 22 rfl rfl
set_option maxRecDepth 100000 in
theorem zw23 : Cond.selects RX9 yX9_giveKeys yX9_giveKeys ∈ zbg := zin 23 rfl rfl
set_option maxRecDepth 100000 in
theorem zw24 : Cond.selects RX9 yX9_give yX9_give ∈ zbg := zin 24 rfl rfl
set_option maxRecDepth 100000 in
theorem zw25 : Cond.selects RX9 yX9_givePaths yX9_givePaths ∈ zbg := zin 25 rfl rfl
set_option maxRecDepth 100000 in
theorem zw26 : Cond.selects RX9 yX9_giveDays yX9_giveDays ∈ zbg := zin 26 rfl rfl
set_option maxRecDepth 100000 in
theorem zw27 : Cond.selects RX9 yX9_counts yX9_counts ∈ zbg := zin 27 rfl rfl
set_option maxRecDepth 100000 in
theorem zw28 : Cond.selects RX9 yX9_atHand yX9_atHand ∈ zbg := zin 28 rfl rfl
set_option maxRecDepth 100000 in
theorem zw29 : Cond.selects RX9 yX9_isNew yX9_isNew ∈ zbg := zin 29 rfl rfl
set_option maxRecDepth 100000 in
theorem zw30 : Cond.selects RX9 yX9_measure yX9_measure ∈ zbg := zin 30 rfl rfl
set_option maxRecDepth 100000 in
theorem zw31 : Cond.selects RX9 yX9_isIn yX9_isIn ∈ zbg := zin 31 rfl rfl
set_option maxRecDepth 100000 in
theorem zw32 : Cond.selects RX9 yX9_hasKey yX9_hasKey ∈ zbg := zin 32 rfl rfl
set_option maxRecDepth 100000 in
theorem zw33 : Cond.selects RX9 yX9_sumOf yX9_sumOf ∈ zbg := zin 33 rfl rfl
set_option maxRecDepth 100000 in
theorem zw34 : Cond.selects RX9 yX9_move yX9_move ∈ zbg := zin 34 rfl rfl
set_option maxRecDepth 100000 in
theorem zw35 : Cond.selects RX9 yX9_isBefore yX9_isBefore ∈ zbg := zin 35 rfl rfl
set_option maxRecDepth 100000 in
theorem zw36 : Cond.selects RX9 yX9_isGroup yX9_isGroup ∈ zbg := zin 36 rfl rfl
set_option maxRecDepth 100000 in
theorem zw37 : Cond.selects RX9 yX9_findRow yX9_findRow ∈ zbg := zin 37 rfl rfl
set_option maxRecDepth 100000 in
theorem zw38 : Cond.selects RX9 yX9_lay yX9_lay ∈ zbg := zin 38 rfl rfl
set_option maxRecDepth 100000 in
theorem zw48 : Cond.initialized RX9 ∈ zbg := zin 48 rfl rfl
set_option maxRecDepth 100000 in
theorem zw622 : Cond.fieldLink RX9 90 "FacetFiguresModel" "objects" "I" ∈ zbg := zin 622 rfl rfl
set_option maxRecDepth 100000 in
theorem zw623 : Cond.fieldLink RX9 7 "FacetFiguresModel" "many" "[I" ∈ zbg := zin 623 rfl rfl
set_option maxRecDepth 100000 in
theorem zw624 : Cond.fieldLink RX9 13 "FacetFiguresModel" "values" "[I" ∈ zbg := zin 624 rfl rfl
set_option maxRecDepth 100000 in
theorem zw625 : Cond.fieldLink RX9 16 "FacetFiguresModel" "matches" "[Z" ∈ zbg := zin 625 rfl rfl
set_option maxRecDepth 100000 in
theorem zw626 : Cond.fieldLink RX9 98 "FacetFiguresModel" "facets" "I" ∈ zbg := zin 626 rfl rfl
set_option maxRecDepth 100000 in
theorem zw627 : Cond.fieldLink RX9 20 "FacetFiguresModel" "kinds" "[I" ∈ zbg := zin 627 rfl rfl
set_option maxRecDepth 100000 in
theorem zw628 : Cond.fieldLink RX9 23 "FacetFiguresModel" "columns" "[I" ∈ zbg := zin 628 rfl rfl
set_option maxRecDepth 100000 in
theorem zw629 : Cond.fieldLink RX9 26 "FacetFiguresModel" "as" "[I" ∈ zbg := zin 629 rfl rfl
set_option maxRecDepth 100000 in
theorem zw630 : Cond.fieldLink RX9 29 "FacetFiguresModel" "bs" "[I" ∈ zbg := zin 630 rfl rfl
set_option maxRecDepth 100000 in
theorem zw631 : Cond.fieldLink RX9 32 "FacetFiguresModel" "ranges" "[I" ∈ zbg := zin 631 rfl rfl
set_option maxRecDepth 100000 in
theorem zw632 : Cond.fieldLink RX9 35 "FacetFiguresModel" "froms" "[I" ∈ zbg := zin 632 rfl rfl
set_option maxRecDepth 100000 in
theorem zw633 : Cond.fieldLink RX9 38 "FacetFiguresModel" "tos" "[I" ∈ zbg := zin 633 rfl rfl
set_option maxRecDepth 100000 in
theorem zw634 : Cond.fieldLink RX9 41 "FacetFiguresModel" "filters" "[I" ∈ zbg := zin 634 rfl rfl
set_option maxRecDepth 100000 in
theorem zw635 : Cond.fieldLink RX9 44 "FacetFiguresModel" "filterFrom" "[I" ∈ zbg := zin 635 rfl rfl
set_option maxRecDepth 100000 in
theorem zw636 : Cond.fieldLink RX9 47 "FacetFiguresModel" "filterTo" "[I" ∈ zbg := zin 636 rfl rfl
set_option maxRecDepth 100000 in
theorem zw637 : Cond.fieldLink RX9 50 "FacetFiguresModel" "leasts" "[I" ∈ zbg := zin 637 rfl rfl
set_option maxRecDepth 100000 in
theorem zw638 : Cond.fieldLink RX9 53 "FacetFiguresModel" "areAsked" "[Z" ∈ zbg := zin 638 rfl rfl
set_option maxRecDepth 100000 in
theorem zw639 : Cond.fieldLink RX9 56 "FacetFiguresModel" "orders" "[I" ∈ zbg := zin 639 rfl rfl
set_option maxRecDepth 100000 in
theorem zw640 : Cond.fieldLink RX9 59 "FacetFiguresModel" "orderColumns" "[I" ∈ zbg := zin 640 rfl rfl
set_option maxRecDepth 100000 in
theorem zw641 : Cond.fieldLink RX9 103 "FacetFiguresModel" "deep" "I" ∈ zbg := zin 641 rfl rfl
set_option maxRecDepth 100000 in
theorem zw642 : Cond.fieldLink RX9 62 "FacetFiguresModel" "hands" "[Z" ∈ zbg := zin 642 rfl rfl
set_option maxRecDepth 100000 in
theorem zw643 : Cond.fieldLink RX9 127 "FacetFiguresModel" "given" "I" ∈ zbg := zin 643 rfl rfl
set_option maxRecDepth 100000 in
theorem zw644 : Cond.fieldLink RX9 65 "FacetFiguresModel" "keys" "[I" ∈ zbg := zin 644 rfl rfl
set_option maxRecDepth 100000 in
theorem zw645 : Cond.fieldLink RX9 162 "FacetFiguresModel" "groups" "I" ∈ zbg := zin 645 rfl rfl
set_option maxRecDepth 100000 in
theorem zw646 : Cond.fieldLink RX9 68 "FacetFiguresModel" "groupKey" "[I" ∈ zbg := zin 646 rfl rfl
set_option maxRecDepth 100000 in
theorem zw647 : Cond.fieldLink RX9 71 "FacetFiguresModel" "groupSize" "[I" ∈ zbg := zin 647 rfl rfl
set_option maxRecDepth 100000 in
theorem zw648 : Cond.fieldLink RX9 74 "FacetFiguresModel" "groupSum" "[J" ∈ zbg := zin 648 rfl rfl
set_option maxRecDepth 100000 in
theorem zw649 : Cond.fieldLink RX9 175 "FacetFiguresModel" "hasMissing" "Z" ∈ zbg := zin 649 rfl rfl
set_option maxRecDepth 100000 in
theorem zw650 : Cond.fieldLink RX9 78 "FacetFiguresModel" "keyMany" "[I" ∈ zbg := zin 650 rfl rfl
set_option maxRecDepth 100000 in
theorem zw651 : Cond.fieldLink RX9 81 "FacetFiguresModel" "keyOf" "[I" ∈ zbg := zin 651 rfl rfl
set_option maxRecDepth 100000 in
theorem zw652 : Cond.fieldLink RX9 84 "FacetFiguresModel" "next" "[Z" ∈ zbg := zin 652 rfl rfl
set_option maxRecDepth 100000 in
theorem zw653 : Cond.fieldLink RX9 211 "FacetFiguresModel" "rows" "I" ∈ zbg := zin 653 rfl rfl
set_option maxRecDepth 100000 in
theorem zw654 : Cond.fieldLink RX9 87 "FacetFiguresModel" "row" "[I" ∈ zbg := zin 654 rfl rfl
set_option maxRecDepth 100000 in
theorem zw726 : Cond.constant RX9 106 (-2000000003 : Int32) ∈ zbg := zin 726 rfl rfl
set_option maxRecDepth 100000 in
theorem zw727 : Cond.methodLink RX9 107 yX9_changes ∈ zbg := zin 727 rfl rfl
set_option maxRecDepth 100000 in
theorem zw729 : Cond.instanceMethod yX9_changes ∈ zbg := zin 729 rfl rfl
set_option maxRecDepth 100000 in
theorem zw730 : Cond.code yX9_changes prog_11_method_7_code 1 none ∈ zbg := zin 730 rfl rfl
set_option maxRecDepth 100000 in
theorem zw735 : Cond.methodLink RX9 110 yX9_isObject ∈ zbg := zin 735 rfl rfl
set_option maxRecDepth 100000 in
theorem zw737 : Cond.instanceMethod yX9_isObject ∈ zbg := zin 737 rfl rfl
set_option maxRecDepth 100000 in
theorem zw738 : Cond.code yX9_isObject prog_11_method_3_code 2 (some .boolean) ∈ zbg := zin 738 rfl rfl
set_option maxRecDepth 100000 in
theorem zw739 : Cond.methodLink RX9 94 yX9_within ∈ zbg := zin 739 rfl rfl
set_option maxRecDepth 100000 in
theorem zw740 : Cond.static yX9_within ∈ zbg := zin 740 rfl rfl
set_option maxRecDepth 100000 in
theorem zw741 : Cond.code yX9_within prog_11_method_2_code 3 (some .boolean) ∈ zbg := zin 741 rfl rfl
set_option maxRecDepth 100000 in
theorem zw742 : Cond.methodLink RX9 114 yX9_isColumn ∈ zbg := zin 742 rfl rfl
set_option maxRecDepth 100000 in
theorem zw743 : Cond.static yX9_isColumn ∈ zbg := zin 743 rfl rfl
set_option maxRecDepth 100000 in
theorem zw744 : Cond.code yX9_isColumn prog_11_method_5_code 1 (some .boolean) ∈ zbg := zin 744 rfl rfl
set_option maxRecDepth 100000 in
theorem zw745 : Cond.methodLink RX9 117 yX9_isValue ∈ zbg := zin 745 rfl rfl
set_option maxRecDepth 100000 in
theorem zw746 : Cond.static yX9_isValue ∈ zbg := zin 746 rfl rfl
set_option maxRecDepth 100000 in
theorem zw747 : Cond.code yX9_isValue prog_11_method_6_code 1 (some .boolean) ∈ zbg := zin 747 rfl rfl
set_option maxRecDepth 100000 in
theorem zw748 : Cond.constant RX9 101 (-1000000000 : Int32) ∈ zbg := zin 748 rfl rfl
set_option maxRecDepth 100000 in
theorem zw749 : Cond.constant RX9 102 (1000000000 : Int32) ∈ zbg := zin 749 rfl rfl
set_option maxRecDepth 100000 in
theorem zw750 : Cond.constant RX9 120 (-2000000001 : Int32) ∈ zbg := zin 750 rfl rfl
set_option maxRecDepth 100000 in
theorem zw763 : Cond.constant RX9 121 (1000000 : Int32) ∈ zbg := zin 763 rfl rfl
set_option maxRecDepth 100000 in
theorem zw764 : Cond.constant RX9 122 (-2000000000 : Int32) ∈ zbg := zin 764 rfl rfl
set_option maxRecDepth 100000 in
theorem zw769 : Cond.methodLink RX9 123 yX9_isFacet ∈ zbg := zin 769 rfl rfl
set_option maxRecDepth 100000 in
theorem zw771 : Cond.instanceMethod yX9_isFacet ∈ zbg := zin 771 rfl rfl
set_option maxRecDepth 100000 in
theorem zw772 : Cond.code yX9_isFacet prog_11_method_4_code 2 (some .boolean) ∈ zbg := zin 772 rfl rfl
set_option maxRecDepth 100000 in
theorem zw773 : Cond.constant RX9 126 (-2000000002 : Int32) ∈ zbg := zin 773 rfl rfl
set_option maxRecDepth 100000 in
theorem zw794 : Cond.methodLink RX9 201 yX9_findGroups ∈ zbg := zin 794 rfl rfl
set_option maxRecDepth 100000 in
theorem zw796 : Cond.instanceMethod yX9_findGroups ∈ zbg := zin 796 rfl rfl
set_option maxRecDepth 100000 in
theorem zw797 : Cond.code yX9_findGroups prog_11_method_37_code 6 none ∈ zbg := zin 797 rfl rfl
set_option maxRecDepth 100000 in
theorem zw798 : Cond.methodLink RX9 189 yX9_findKeys ∈ zbg := zin 798 rfl rfl
set_option maxRecDepth 100000 in
theorem zw800 : Cond.instanceMethod yX9_findKeys ∈ zbg := zin 800 rfl rfl
set_option maxRecDepth 100000 in
theorem zw801 : Cond.code yX9_findKeys prog_11_method_32_code 5 none ∈ zbg := zin 801 rfl rfl
set_option maxRecDepth 100000 in
theorem zw802 : Cond.methodLink RX9 165 yX9_findKeysOf ∈ zbg := zin 802 rfl rfl
set_option maxRecDepth 100000 in
theorem zw804 : Cond.instanceMethod yX9_findKeysOf ∈ zbg := zin 804 rfl rfl
set_option maxRecDepth 100000 in
theorem zw805 : Cond.code yX9_findKeysOf prog_11_method_28_code 6 none ∈ zbg := zin 805 rfl rfl
set_option maxRecDepth 100000 in
theorem zw806 : Cond.methodLink RX9 159 yX9_giveKeys ∈ zbg := zin 806 rfl rfl
set_option maxRecDepth 100000 in
theorem zw808 : Cond.instanceMethod yX9_giveKeys ∈ zbg := zin 808 rfl rfl
set_option maxRecDepth 100000 in
theorem zw809 : Cond.code yX9_giveKeys prog_11_method_25_code 4 none ∈ zbg := zin 809 rfl rfl
set_option maxRecDepth 100000 in
theorem zw810 : Cond.methodLink RX9 131 yX9_give ∈ zbg := zin 810 rfl rfl
set_option maxRecDepth 100000 in
theorem zw812 : Cond.instanceMethod yX9_give ∈ zbg := zin 812 rfl rfl
set_option maxRecDepth 100000 in
theorem zw813 : Cond.code yX9_give prog_11_method_18_code 2 none ∈ zbg := zin 813 rfl rfl
set_option maxRecDepth 100000 in
theorem zw814 : Cond.methodLink RX9 149 yX9_givePaths ∈ zbg := zin 814 rfl rfl
set_option maxRecDepth 100000 in
theorem zw816 : Cond.instanceMethod yX9_givePaths ∈ zbg := zin 816 rfl rfl
set_option maxRecDepth 100000 in
theorem zw817 : Cond.code yX9_givePaths prog_11_method_19_code 4 none ∈ zbg := zin 817 rfl rfl
set_option maxRecDepth 100000 in
theorem zw818 : Cond.constant RX9 130 (999999 : Int32) ∈ zbg := zin 818 rfl rfl
set_option maxRecDepth 100000 in
theorem zw819 : Cond.methodLink RX9 143 yX9_modulo ∈ zbg := zin 819 rfl rfl
set_option maxRecDepth 100000 in
theorem zw820 : Cond.static yX9_modulo ∈ zbg := zin 820 rfl rfl
set_option maxRecDepth 100000 in
theorem zw821 : Cond.code yX9_modulo prog_11_method_23_code 3 (some .int) ∈ zbg := zin 821 rfl rfl
set_option maxRecDepth 100000 in
theorem zw822 : Cond.methodLink RX9 152 yX9_giveDays ∈ zbg := zin 822 rfl rfl
set_option maxRecDepth 100000 in
theorem zw824 : Cond.instanceMethod yX9_giveDays ∈ zbg := zin 824 rfl rfl
set_option maxRecDepth 100000 in
theorem zw825 : Cond.code yX9_giveDays prog_11_method_24_code 3 none ∈ zbg := zin 825 rfl rfl
set_option maxRecDepth 100000 in
theorem zw826 : Cond.constant RX9 142 (-1000000 : Int32) ∈ zbg := zin 826 rfl rfl
set_option maxRecDepth 100000 in
theorem zw827 : Cond.methodLink RX9 146 yX9_behind ∈ zbg := zin 827 rfl rfl
set_option maxRecDepth 100000 in
theorem zw828 : Cond.static yX9_behind ∈ zbg := zin 828 rfl rfl
set_option maxRecDepth 100000 in
theorem zw829 : Cond.code yX9_behind prog_11_method_22_code 7 (some .int) ∈ zbg := zin 829 rfl rfl
set_option maxRecDepth 100000 in
theorem zw830 : Cond.methodLink RX9 135 yX9_isLeap ∈ zbg := zin 830 rfl rfl
set_option maxRecDepth 100000 in
theorem zw831 : Cond.static yX9_isLeap ∈ zbg := zin 831 rfl rfl
set_option maxRecDepth 100000 in
theorem zw832 : Cond.code yX9_isLeap prog_11_method_20_code 1 (some .boolean) ∈ zbg := zin 832 rfl rfl
set_option maxRecDepth 100000 in
theorem zw833 : Cond.methodLink RX9 138 yX9_daysOf ∈ zbg := zin 833 rfl rfl
set_option maxRecDepth 100000 in
theorem zw834 : Cond.static yX9_daysOf ∈ zbg := zin 834 rfl rfl
set_option maxRecDepth 100000 in
theorem zw835 : Cond.code yX9_daysOf prog_11_method_21_code 2 (some .int) ∈ zbg := zin 835 rfl rfl
set_option maxRecDepth 100000 in
theorem zw836 : Cond.methodLink RX9 168 yX9_counts ∈ zbg := zin 836 rfl rfl
set_option maxRecDepth 100000 in
theorem zw838 : Cond.instanceMethod yX9_counts ∈ zbg := zin 838 rfl rfl
set_option maxRecDepth 100000 in
theorem zw839 : Cond.code yX9_counts prog_11_method_27_code 6 (some .boolean) ∈ zbg := zin 839 rfl rfl
set_option maxRecDepth 100000 in
theorem zw840 : Cond.methodLink RX9 156 yX9_atHand ∈ zbg := zin 840 rfl rfl
set_option maxRecDepth 100000 in
theorem zw842 : Cond.instanceMethod yX9_atHand ∈ zbg := zin 842 rfl rfl
set_option maxRecDepth 100000 in
theorem zw843 : Cond.code yX9_atHand prog_11_method_26_code 2 (some .boolean) ∈ zbg := zin 843 rfl rfl
set_option maxRecDepth 100000 in
theorem zw844 : Cond.methodLink RX9 172 yX9_isNew ∈ zbg := zin 844 rfl rfl
set_option maxRecDepth 100000 in
theorem zw846 : Cond.instanceMethod yX9_isNew ∈ zbg := zin 846 rfl rfl
set_option maxRecDepth 100000 in
theorem zw847 : Cond.code yX9_isNew prog_11_method_31_code 4 (some .boolean) ∈ zbg := zin 847 rfl rfl
set_option maxRecDepth 100000 in
theorem zw848 : Cond.methodLink RX9 192 yX9_measure ∈ zbg := zin 848 rfl rfl
set_option maxRecDepth 100000 in
theorem zw850 : Cond.instanceMethod yX9_measure ∈ zbg := zin 850 rfl rfl
set_option maxRecDepth 100000 in
theorem zw851 : Cond.code yX9_measure prog_11_method_34_code 4 none ∈ zbg := zin 851 rfl rfl
set_option maxRecDepth 100000 in
theorem zw852 : Cond.methodLink RX9 182 yX9_isIn ∈ zbg := zin 852 rfl rfl
set_option maxRecDepth 100000 in
theorem zw854 : Cond.instanceMethod yX9_isIn ∈ zbg := zin 854 rfl rfl
set_option maxRecDepth 100000 in
theorem zw855 : Cond.code yX9_isIn prog_11_method_33_code 5 (some .boolean) ∈ zbg := zin 855 rfl rfl
set_option maxRecDepth 100000 in
theorem zw856 : Cond.methodLink RX9 179 yX9_hasKey ∈ zbg := zin 856 rfl rfl
set_option maxRecDepth 100000 in
theorem zw858 : Cond.instanceMethod yX9_hasKey ∈ zbg := zin 858 rfl rfl
set_option maxRecDepth 100000 in
theorem zw859 : Cond.code yX9_hasKey prog_11_method_29_code 5 (some .boolean) ∈ zbg := zin 859 rfl rfl
set_option maxRecDepth 100000 in
theorem zw860 : Cond.methodLink RX9 185 yX9_sumOf ∈ zbg := zin 860 rfl rfl
set_option maxRecDepth 100000 in
theorem zw862 : Cond.instanceMethod yX9_sumOf ∈ zbg := zin 862 rfl rfl
set_option maxRecDepth 100000 in
theorem zw863 : Cond.code yX9_sumOf prog_11_method_30_code 6 (some .long) ∈ zbg := zin 863 rfl rfl
set_option maxRecDepth 100000 in
theorem zw864 : Cond.methodLink RX9 195 yX9_move ∈ zbg := zin 864 rfl rfl
set_option maxRecDepth 100000 in
theorem zw866 : Cond.instanceMethod yX9_move ∈ zbg := zin 866 rfl rfl
set_option maxRecDepth 100000 in
theorem zw867 : Cond.code yX9_move prog_11_method_36_code 3 none ∈ zbg := zin 867 rfl rfl
set_option maxRecDepth 100000 in
theorem zw868 : Cond.methodLink RX9 198 yX9_isBefore ∈ zbg := zin 868 rfl rfl
set_option maxRecDepth 100000 in
theorem zw870 : Cond.instanceMethod yX9_isBefore ∈ zbg := zin 870 rfl rfl
set_option maxRecDepth 100000 in
theorem zw871 : Cond.code yX9_isBefore prog_11_method_35_code 4 (some .boolean) ∈ zbg := zin 871 rfl rfl
set_option maxRecDepth 100000 in
theorem zw876 : Cond.methodLink RX9 204 yX9_isGroup ∈ zbg := zin 876 rfl rfl
set_option maxRecDepth 100000 in
theorem zw878 : Cond.instanceMethod yX9_isGroup ∈ zbg := zin 878 rfl rfl
set_option maxRecDepth 100000 in
theorem zw879 : Cond.code yX9_isGroup prog_11_method_38_code 3 (some .boolean) ∈ zbg := zin 879 rfl rfl
set_option maxRecDepth 100000 in
theorem zw892 : Cond.methodLink RX9 207 yX9_hand ∈ zbg := zin 892 rfl rfl
set_option maxRecDepth 100000 in
theorem zw893 : Cond.instanceMethod yX9_hand ∈ zbg := zin 893 rfl rfl
set_option maxRecDepth 100000 in
theorem zw894 : Cond.selects RX9 yX9_hand yX9_hand ∈ zbg := zin 894 rfl rfl
set_option maxRecDepth 100000 in
theorem zw895 : Cond.code yX9_hand prog_11_method_45_code 3 (some .int) ∈ zbg := zin 895 rfl rfl
set_option maxRecDepth 100000 in
theorem zw905 : Cond.methodLink RX9 217 yX9_findRow ∈ zbg := zin 905 rfl rfl
set_option maxRecDepth 100000 in
theorem zw907 : Cond.instanceMethod yX9_findRow ∈ zbg := zin 907 rfl rfl
set_option maxRecDepth 100000 in
theorem zw908 : Cond.code yX9_findRow prog_11_method_46_code 7 (some .boolean) ∈ zbg := zin 908 rfl rfl
set_option maxRecDepth 100000 in
theorem zw909 : Cond.methodLink RX9 214 yX9_lay ∈ zbg := zin 909 rfl rfl
set_option maxRecDepth 100000 in
theorem zw911 : Cond.instanceMethod yX9_lay ∈ zbg := zin 911 rfl rfl
set_option maxRecDepth 100000 in
theorem zw912 : Cond.code yX9_lay prog_11_method_47_code 3 none ∈ zbg := zin 912 rfl rfl
set_option maxRecDepth 100000 in
theorem zw913 : Cond.constantLong RX9 220 (-2000000001 : Int64) ∈ zbg := zin 913 rfl rfl
set_option maxRecDepth 100000 in
theorem zw914 : Cond.constantLong RX9 222 (-2000000000 : Int64) ∈ zbg := zin 914 rfl rfl
set_option maxRecDepth 100000 in
theorem zkX9_within : zkS yX9_within cX9_within 3 (some .boolean) 3 := ⟨zw740, zw48, zw741, by decide, by decide, by decide +kernel⟩
set_option maxRecDepth 100000 in
theorem zkX9_changes : zkV RX9 yX9_changes cX9_changes 1 (none) 0 := ⟨zw729, zw17, zw48, zw730, rfl, by decide, by decide, by decide +kernel⟩
set_option maxRecDepth 100000 in
theorem zkX9_isObject : zkV RX9 yX9_isObject cX9_isObject 2 (some .boolean) 1 := ⟨zw737, zw18, zw48, zw738, rfl, by decide, by decide, by decide +kernel⟩
set_option maxRecDepth 100000 in
theorem zkX9_isColumn : zkS yX9_isColumn cX9_isColumn 1 (some .boolean) 1 := ⟨zw743, zw48, zw744, by decide, by decide, by decide +kernel⟩
set_option maxRecDepth 100000 in
theorem zkX9_isValue : zkS yX9_isValue cX9_isValue 1 (some .boolean) 1 := ⟨zw746, zw48, zw747, by decide, by decide, by decide +kernel⟩
set_option maxRecDepth 100000 in
theorem zkX9_isFacet : zkV RX9 yX9_isFacet cX9_isFacet 2 (some .boolean) 1 := ⟨zw771, zw19, zw48, zw772, rfl, by decide, by decide, by decide +kernel⟩
set_option maxRecDepth 100000 in
theorem zkX9_give : zkV RX9 yX9_give cX9_give 2 (none) 1 := ⟨zw812, zw24, zw48, zw813, rfl, by decide, by decide, by decide +kernel⟩
set_option maxRecDepth 100000 in
theorem zkX9_isLeap : zkS yX9_isLeap cX9_isLeap 1 (some .boolean) 1 := ⟨zw831, zw48, zw832, by decide, by decide, by decide +kernel⟩
set_option maxRecDepth 100000 in
theorem zkX9_daysOf : zkS yX9_daysOf cX9_daysOf 2 (some .int) 2 := ⟨zw834, zw48, zw835, by decide, by decide, by decide +kernel⟩
set_option maxRecDepth 100000 in
theorem zkX9_behind : zkS yX9_behind cX9_behind 7 (some .int) 2 := ⟨zw828, zw48, zw829, by decide, by decide, by decide +kernel⟩
set_option maxRecDepth 100000 in
theorem zkX9_modulo : zkS yX9_modulo cX9_modulo 3 (some .int) 2 := ⟨zw820, zw48, zw821, by decide, by decide, by decide +kernel⟩
set_option maxRecDepth 100000 in
theorem zkX9_givePaths : zkV RX9 yX9_givePaths cX9_givePaths 4 (none) 1 := ⟨zw816, zw25, zw48, zw817, rfl, by decide, by decide, by decide +kernel⟩
set_option maxRecDepth 100000 in
theorem zkX9_giveDays : zkV RX9 yX9_giveDays cX9_giveDays 3 (none) 2 := ⟨zw824, zw26, zw48, zw825, rfl, by decide, by decide, by decide +kernel⟩
set_option maxRecDepth 100000 in
theorem zkX9_atHand : zkV RX9 yX9_atHand cX9_atHand 2 (some .boolean) 1 := ⟨zw842, zw28, zw48, zw843, rfl, by decide, by decide, by decide +kernel⟩
set_option maxRecDepth 100000 in
theorem zkX9_giveKeys : zkV RX9 yX9_giveKeys cX9_giveKeys 4 (none) 2 := ⟨zw808, zw23, zw48, zw809, rfl, by decide, by decide, by decide +kernel⟩
set_option maxRecDepth 100000 in
theorem zkX9_findKeysOf : zkV RX9 yX9_findKeysOf cX9_findKeysOf 6 (none) 2 := ⟨zw804, zw22, zw48, zw805, rfl, by decide, by decide, by decide +kernel⟩
set_option maxRecDepth 100000 in
theorem zkX9_counts : zkV RX9 yX9_counts cX9_counts 6 (some .boolean) 2 := ⟨zw838, zw27, zw48, zw839, rfl, by decide, by decide, by decide +kernel⟩
set_option maxRecDepth 100000 in
theorem zkX9_isNew : zkV RX9 yX9_isNew cX9_isNew 4 (some .boolean) 1 := ⟨zw846, zw29, zw48, zw847, rfl, by decide, by decide, by decide +kernel⟩
set_option maxRecDepth 100000 in
theorem zkX9_hasKey : zkV RX9 yX9_hasKey cX9_hasKey 5 (some .boolean) 2 := ⟨zw858, zw32, zw48, zw859, rfl, by decide, by decide, by decide +kernel⟩
set_option maxRecDepth 100000 in
theorem zkX9_isIn : zkV RX9 yX9_isIn cX9_isIn 5 (some .boolean) 3 := ⟨zw854, zw31, zw48, zw855, rfl, by decide, by decide, by decide +kernel⟩
set_option maxRecDepth 100000 in
theorem zkX9_sumOf : zkV RX9 yX9_sumOf cX9_sumOf 6 (some .long) 2 := ⟨zw862, zw33, zw48, zw863, rfl, by decide, by decide, by decide +kernel⟩
set_option maxRecDepth 100000 in
theorem zkX9_findKeys : zkV RX9 yX9_findKeys cX9_findKeys 5 (none) 1 := ⟨zw800, zw21, zw48, zw801, rfl, by decide, by decide, by decide +kernel⟩
set_option maxRecDepth 100000 in
theorem zkX9_measure : zkV RX9 yX9_measure cX9_measure 4 (none) 2 := ⟨zw850, zw30, zw48, zw851, rfl, by decide, by decide, by decide +kernel⟩
set_option maxRecDepth 100000 in
theorem zkX9_move : zkV RX9 yX9_move cX9_move 3 (none) 2 := ⟨zw866, zw34, zw48, zw867, rfl, by decide, by decide, by decide +kernel⟩
set_option maxRecDepth 100000 in
theorem zkX9_isBefore : zkV RX9 yX9_isBefore cX9_isBefore 4 (some .boolean) 3 := ⟨zw870, zw35, zw48, zw871, rfl, by decide, by decide, by decide +kernel⟩
set_option maxRecDepth 100000 in
theorem zkX9_findGroups : zkV RX9 yX9_findGroups cX9_findGroups 6 (none) 1 := ⟨zw796, zw20, zw48, zw797, rfl, by decide, by decide, by decide +kernel⟩
set_option maxRecDepth 100000 in
theorem zkX9_isGroup : zkV RX9 yX9_isGroup cX9_isGroup 3 (some .boolean) 2 := ⟨zw878, zw36, zw48, zw879, rfl, by decide, by decide, by decide +kernel⟩
set_option maxRecDepth 100000 in
theorem zkX9_hand : zkV RX9 yX9_hand cX9_hand 3 (some .int) 0 := ⟨zw893, zw894, zw48, zw895, rfl, by decide, by decide, by decide +kernel⟩
set_option maxRecDepth 100000 in
theorem zkX9_lay : zkV RX9 yX9_lay cX9_lay 3 (none) 1 := ⟨zw911, zw38, zw48, zw912, rfl, by decide, by decide, by decide +kernel⟩
set_option maxRecDepth 100000 in
theorem zkX9_findRow : zkV RX9 yX9_findRow cX9_findRow 7 (some .boolean) 3 := ⟨zw907, zw37, zw48, zw908, rfl, by decide, by decide, by decide +kernel⟩
