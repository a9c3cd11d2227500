set_option maxRecDepth 20000 in
theorem ggL_law_X12_take : GoodIn wsL_law wsX12_take := goodIn_r _ [941, 156, 157, 907, 906, 626, 138, 139, 140, 141, 142, 143, 144, 146, 257, 258, 259, 5, 260, 747, 748, 749, 750, 942, 943, 944, 945, 145, 777, 778, 779, 780, 746, 134, 135, 136, 137, 548, 549, 550, 551, 124, 125, 636, 637, 638, 639, 126, 128, 129, 130, 131, 640, 392, 389, 393, 641, 388, 390, 642, 643, 644, 645, 133, 132, 646, 647, 648, 649, 127, 962, 963, 964, 965, 966, 967, 968, 969, 970, 971, 972, 973, 974, 975, 976, 977, 978, 979, 980, 981, 982, 983, 984, 985, 986, 987, 988, 989, 990, 991, 992, 993, 994, 995, 996, 997, 998, 999, 1000, 1001, 1002, 1003, 1004, 1005, 1006, 1007, 1008, 1009, 1010, 1011, 1012, 1013, 1014, 1015] (by decide +kernel) (by decide +kernel)
set_option maxRecDepth 20000 in
theorem gL_law_X12_take : GoodIn wsL_law (wsV RL 139 RX12 yX12_take wsX12_take) := goodIn_app (goodIn_of _ (by decide +kernel)) ggL_law_X12_take
set_option maxRecDepth 20000 in
theorem ggL_law_X11_state : GoodIn wsL_law wsX11_state := goodIn_r _ [949, 30, 28, 912, 921, 922, 923, 2, 924, 888, 880, 726, 727, 728, 729, 925, 926, 927, 883, 928, 893, 897, 954, 955, 956, 957, 958, 959, 960, 961, 1034, 1035, 1036, 1070, 1071, 1072, 1073, 1074] (by decide +kernel) (by decide +kernel)
set_option maxRecDepth 20000 in
theorem gL_law_X11_state : GoodIn wsL_law (wsV RL 140 RX11 yX11_state wsX11_state) := goodIn_app (goodIn_of _ (by decide +kernel)) ggL_law_X11_state
set_option maxRecDepth 20000 in
theorem ggL_law_X12_state : GoodIn wsL_law wsX12_state := goodIn_r _ [953, 156, 157, 907, 906, 146, 145, 257, 258, 259, 5, 260, 747, 748, 749, 750, 962, 963, 964, 965, 966, 967, 968, 969, 970, 971, 972, 973, 974, 975, 976, 977, 978, 979, 980, 981, 982, 983, 984, 985, 986, 987, 988, 989, 990, 991, 992, 993, 994, 995, 996, 997, 998, 999, 1000, 1001, 1002, 1003, 1004, 1005, 1006, 1007, 1008, 1009, 1010, 1011, 1012, 1013, 1014, 1015] (by decide +kernel) (by decide +kernel)
set_option maxRecDepth 20000 in
theorem gL_law_X12_state : GoodIn wsL_law (wsV RL 143 RX12 yX12_state wsX12_state) := goodIn_app (goodIn_of _ (by decide +kernel)) ggL_law_X12_state
