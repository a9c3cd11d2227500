set_option maxRecDepth 20000 in
theorem ggL_law_X12_upper : GoodIn wsL_law wsX12_upper := goodIn_r _ [788, 156, 710, 962, 963, 964, 965, 966, 967, 968, 969, 970, 971, 972, 973, 974, 975, 976, 977, 978, 979, 980, 981, 982, 983, 984, 985, 986, 987, 988, 989, 990, 991, 992, 993, 994, 995, 996, 997, 998, 999, 1000, 1001, 1002, 1003, 1004, 1005, 1006, 1007, 1008, 1009, 1010, 1011, 1012, 1013, 1014, 1015] (by decide +kernel) (by decide +kernel)
set_option maxRecDepth 20000 in
theorem gL_law_X12_upper : GoodIn wsL_law (wsV RL 117 RX12 yX12_upper wsX12_upper) := goodIn_app (goodIn_of _ (by decide +kernel)) ggL_law_X12_upper
set_option maxRecDepth 20000 in
theorem ggL_law_X11_lower : GoodIn wsL_law wsX11_lower := goodIn_r _ [792, 32, 954, 955, 956, 957, 958, 959, 960, 961] (by decide +kernel) (by decide +kernel)
set_option maxRecDepth 20000 in
theorem gL_law_X11_lower : GoodIn wsL_law (wsV RL 118 RX11 yX11_lower wsX11_lower) := goodIn_app (goodIn_of _ (by decide +kernel)) ggL_law_X11_lower
set_option maxRecDepth 20000 in
theorem ggL_law_X12_lower : GoodIn wsL_law wsX12_lower := goodIn_r _ [796, 156, 108, 962, 963, 964, 965, 966, 967, 968, 969, 970, 971, 972, 973, 974, 975, 976, 977, 978, 979, 980, 981, 982, 983, 984, 985, 986, 987, 988, 989, 990, 991, 992, 993, 994, 995, 996, 997, 998, 999, 1000, 1001, 1002, 1003, 1004, 1005, 1006, 1007, 1008, 1009, 1010, 1011, 1012, 1013, 1014, 1015] (by decide +kernel) (by decide +kernel)
set_option maxRecDepth 20000 in
theorem gL_law_X12_lower : GoodIn wsL_law (wsV RL 121 RX12 yX12_lower wsX12_lower) := goodIn_app (goodIn_of _ (by decide +kernel)) ggL_law_X12_lower
set_option maxRecDepth 20000 in
theorem ggL_law_X11_auction : GoodIn wsL_law wsX11_auction := goodIn_r _ [800, 30, 801, 802, 803, 14, 219, 20, 265, 804, 29, 805, 806, 807, 2, 808, 705, 729, 191, 809, 165, 166, 167, 295, 296, 297, 298, 810, 811, 812, 813, 814, 815, 816, 817, 818, 11, 12, 819, 820, 821, 822, 47, 823, 824, 825, 826, 827, 828, 829, 830, 831, 832, 833, 834, 835, 836, 388, 389, 390, 837, 838, 839, 840, 841, 842, 843, 844, 845, 846, 847, 848, 954, 955, 956, 957, 958, 959, 960, 961, 1062, 1063, 1064, 1065, 1066, 1067, 1068, 1069, 1016, 1017, 1018, 1019, 1020, 1021, 1022, 1023, 1024, 1025, 1026] (by decide +kernel) (by decide +kernel)
set_option maxRecDepth 20000 in
theorem gL_law_X11_auction : GoodIn wsL_law (wsV RL 122 RX11 yX11_auction wsX11_auction) := goodIn_app (goodIn_of _ (by decide +kernel)) ggL_law_X11_auction
set_option maxRecDepth 20000 in
theorem ggL_law_X12_auction : GoodIn wsL_law wsX12_auction := goodIn_r _ [852, 156, 157, 853, 750, 110, 270, 854, 147, 855, 856, 857, 858, 859, 860, 311, 312, 313, 5, 314, 257, 258, 259, 260, 861, 862, 863, 864, 111, 962, 963, 964, 965, 966, 967, 968, 969, 970, 971, 972, 973, 974, 975, 976, 977, 978, 979, 980, 981, 982, 983, 984, 985, 986, 987, 988, 989, 990, 991, 992, 993, 994, 995, 996, 997, 998, 999, 1000, 1001, 1002, 1003, 1004, 1005, 1006, 1007, 1008, 1009, 1010, 1011, 1012, 1013, 1014, 1015] (by decide +kernel) (by decide +kernel)
set_option maxRecDepth 20000 in
theorem gL_law_X12_auction : GoodIn wsL_law (wsV RL 125 RX12 yX12_auction wsX12_auction) := goodIn_app (goodIn_of _ (by decide +kernel)) ggL_law_X12_auction
set_option maxRecDepth 20000 in
theorem ggL_law_X11_sold : GoodIn wsL_law wsX11_sold := goodIn_r _ [868, 30, 29, 869, 870, 871, 954, 955, 956, 957, 958, 959, 960, 961, 1062, 1063, 1064, 1065, 1066, 1067, 1068, 1069] (by decide +kernel) (by decide +kernel)
set_option maxRecDepth 20000 in
theorem gL_law_X11_sold : GoodIn wsL_law (wsV RL 126 RX11 yX11_sold wsX11_sold) := goodIn_app (goodIn_of _ (by decide +kernel)) ggL_law_X11_sold
set_option maxRecDepth 20000 in
theorem ggL_law_X12_sold : GoodIn wsL_law wsX12_sold := goodIn_r _ [875, 156, 157, 858, 860, 859, 857, 257, 258, 259, 5, 260, 962, 963, 964, 965, 966, 967, 968, 969, 970, 971, 972, 973, 974, 975, 976, 977, 978, 979, 980, 981, 982, 983, 984, 985, 986, 987, 988, 989, 990, 991, 992, 993, 994, 995, 996, 997, 998, 999, 1000, 1001, 1002, 1003, 1004, 1005, 1006, 1007, 1008, 1009, 1010, 1011, 1012, 1013, 1014, 1015] (by decide +kernel) (by decide +kernel)
set_option maxRecDepth 20000 in
theorem gL_law_X12_sold : GoodIn wsL_law (wsV RL 130 RX12 yX12_sold wsX12_sold) := goodIn_app (goodIn_of _ (by decide +kernel)) ggL_law_X12_sold
set_option maxRecDepth 20000 in
theorem ggL_law_X11_offer : GoodIn wsL_law wsX11_offer := goodIn_r _ [879, 556, 557, 558, 30, 28, 880, 881, 882, 883, 559, 560, 561, 562, 11, 12, 563, 564, 565, 566, 567, 884, 885, 886, 2, 887, 888, 24, 755, 756, 757, 758, 515, 516, 517, 518, 497, 295, 296, 297, 298, 20, 265, 573, 574, 575, 576, 577, 578, 726, 727, 728, 729, 759, 760, 761, 23, 762, 763, 540, 541, 542, 89, 543, 520, 521, 522, 90, 764, 765, 766, 767, 94, 96, 768, 769, 770, 720, 771, 734, 735, 736, 737, 772, 580, 581, 582, 583, 584, 585, 586, 91, 93, 587, 588, 589, 590, 591, 592, 593, 594, 595, 392, 389, 393, 596, 597, 598, 388, 390, 599, 600, 601, 602, 603, 604, 605, 606, 607, 608, 609, 610, 889, 890, 891, 892, 893, 894, 895, 896, 897, 898, 899, 900, 27, 901, 103, 101, 1048, 1049, 1050, 1051, 1052, 954, 955, 956, 957, 958, 959, 960, 961, 1034, 1035, 1036, 1070, 1071, 1072, 1073, 1074, 1027, 1028, 1029, 1030, 1031, 1032, 1033, 1020, 1021, 1022, 1023, 1024, 1025, 1026, 1058, 1059, 1060, 1061, 1053, 1054, 1055, 1056, 1057] (by decide +kernel) (by decide +kernel)
set_option maxRecDepth 20000 in
theorem gL_law_X11_offer : GoodIn wsL_law (wsV RL 131 RX11 yX11_offer wsX11_offer) := goodIn_app (goodIn_of _ (by decide +kernel)) ggL_law_X11_offer
set_option maxRecDepth 20000 in
theorem ggL_law_X12_offer : GoodIn wsL_law wsX12_offer := goodIn_r _ [905, 156, 157, 906, 907, 138, 139, 140, 141, 142, 143, 144, 145, 146, 531, 532, 533, 5, 534, 506, 311, 312, 313, 314, 270, 257, 258, 259, 260, 627, 628, 629, 630, 631, 632, 633, 634, 635, 747, 748, 749, 750, 777, 778, 779, 780, 746, 134, 135, 136, 137, 548, 549, 550, 551, 124, 125, 636, 637, 638, 639, 626, 126, 128, 129, 130, 131, 640, 392, 389, 393, 641, 388, 390, 642, 643, 644, 645, 133, 132, 962, 963, 964, 965, 966, 967, 968, 969, 970, 971, 972, 973, 974, 975, 976, 977, 978, 979, 980, 981, 982, 983, 984, 985, 986, 987, 988, 989, 990, 991, 992, 993, 994, 995, 996, 997, 998, 999, 1000, 1001, 1002, 1003, 1004, 1005, 1006, 1007, 1008, 1009, 1010, 1011, 1012, 1013, 1014, 1015] (by decide +kernel) (by decide +kernel)
set_option maxRecDepth 20000 in
theorem gL_law_X12_offer : GoodIn wsL_law (wsV RL 135 RX12 yX12_offer wsX12_offer) := goodIn_app (goodIn_of _ (by decide +kernel)) ggL_law_X12_offer
set_option maxRecDepth 20000 in
theorem ggL_law_X11_take : GoodIn wsL_law wsX11_take := goodIn_r _ [911, 30, 28, 912, 24, 913, 914, 915, 916, 880, 917, 918, 919, 2, 920, 572, 921, 922, 923, 924, 888, 726, 727, 728, 729, 925, 926, 927, 883, 928, 893, 897, 759, 760, 761, 23, 762, 763, 540, 541, 542, 89, 543, 520, 521, 522, 90, 764, 765, 766, 767, 94, 96, 768, 769, 770, 720, 771, 734, 735, 736, 737, 772, 580, 581, 582, 583, 584, 585, 586, 91, 93, 587, 588, 589, 590, 591, 592, 593, 594, 595, 392, 389, 393, 596, 597, 598, 388, 390, 599, 600, 601, 602, 558, 603, 563, 564, 565, 604, 605, 606, 607, 608, 609, 610, 611, 612, 613, 614, 92, 615, 616, 617, 618, 619, 11, 12, 620, 621, 929, 930, 931, 27, 932, 101, 103, 933, 100, 934, 935, 936, 937, 954, 955, 956, 957, 958, 959, 960, 961, 1034, 1035, 1036, 1070, 1071, 1072, 1073, 1074, 1027, 1028, 1029, 1030, 1031, 1032, 1033, 1058, 1059, 1060, 1061, 1053, 1054, 1055, 1056, 1057, 1048, 1049, 1050, 1051, 1052] (by decide +kernel) (by decide +kernel)
set_option maxRecDepth 20000 in
theorem gL_law_X11_take : GoodIn wsL_law (wsV RL 136 RX11 yX11_take wsX11_take) := goodIn_app (goodIn_of _ (by decide +kernel)) ggL_law_X11_take
set_option maxRecDepth 20000 in
theorem ggL_law_X12_take : GoodIn wsL_law wsX12_take := goodIn_r _ [941, 156, 157, 907, 906, 626, 138, 139, 140, 141, 142, 143, 144, 146, 257, 258, 259, 5, 260, 747, 748, 749, 750, 942, 943, 944, 945, 145, 777, 778, 779, 780, 746, 134, 135, 136, 137, 548, 549, 550, 551, 124, 125, 636, 637, 638, 639, 126, 128, 129, 130, 131, 640, 392, 389, 393, 641, 388, 390, 642, 643, 644, 645, 133, 132, 646, 647, 648, 649, 127, 962, 963, 964, 965, 966, 967, 968, 969, 970, 971, 972, 973, 974, 975, 976, 977, 978, 979, 980, 981, 982, 983, 984, 985, 986, 987, 988, 989, 990, 991, 992, 993, 994, 995, 996, 997, 998, 999, 1000, 1001, 1002, 1003, 1004, 1005, 1006, 1007, 1008, 1009, 1010, 1011, 1012, 1013, 1014, 1015] (by decide +kernel) (by decide +kernel)
set_option maxRecDepth 20000 in
theorem gL_law_X12_take : GoodIn wsL_law (wsV RL 139 RX12 yX12_take wsX12_take) := goodIn_app (goodIn_of _ (by decide +kernel)) ggL_law_X12_take
set_option maxRecDepth 20000 in
theorem ggL_law_X11_state : GoodIn wsL_law wsX11_state := goodIn_r _ [949, 30, 28, 912, 921, 922, 923, 2, 924, 888, 880, 726, 727, 728, 729, 925, 926, 927, 883, 928, 893, 897, 954, 955, 956, 957, 958, 959, 960, 961, 1034, 1035, 1036, 1070, 1071, 1072, 1073, 1074] (by decide +kernel) (by decide +kernel)
set_option maxRecDepth 20000 in
theorem gL_law_X11_state : GoodIn wsL_law (wsV RL 140 RX11 yX11_state wsX11_state) := goodIn_app (goodIn_of _ (by decide +kernel)) ggL_law_X11_state
set_option maxRecDepth 20000 in
theorem ggL_law_X12_state : GoodIn wsL_law wsX12_state := goodIn_r _ [953, 156, 157, 907, 906, 146, 145, 257, 258, 259, 5, 260, 747, 748, 749, 750, 962, 963, 964, 965, 966, 967, 968, 969, 970, 971, 972, 973, 974, 975, 976, 977, 978, 979, 980, 981, 982, 983, 984, 985, 986, 987, 988, 989, 990, 991, 992, 993, 994, 995, 996, 997, 998, 999, 1000, 1001, 1002, 1003, 1004, 1005, 1006, 1007, 1008, 1009, 1010, 1011, 1012, 1013, 1014, 1015] (by decide +kernel) (by decide +kernel)
set_option maxRecDepth 20000 in
theorem gL_law_X12_state : GoodIn wsL_law (wsV RL 143 RX12 yX12_state wsX12_state) := goodIn_app (goodIn_of _ (by decide +kernel)) ggL_law_X12_state
