set_option maxRecDepth 20000 in
theorem ggL_law_X12_lower : GoodIn wsL_law wsX12_lower := goodIn_r _ [796, 156, 108, 962, 963, 964, 965, 966, 967, 968, 969, 970, 971, 972, 973, 974, 975, 976, 977, 978, 979, 980, 981, 982, 983, 984, 985, 986, 987, 988, 989, 990, 991, 992, 993, 994, 995, 996, 997, 998, 999, 1000, 1001, 1002, 1003, 1004, 1005, 1006, 1007, 1008, 1009, 1010, 1011, 1012, 1013, 1014, 1015] (by decide +kernel) (by decide +kernel)
set_option maxRecDepth 20000 in
theorem gL_law_X12_lower : GoodIn wsL_law (wsV RL 121 RX12 yX12_lower wsX12_lower) := goodIn_app (goodIn_of _ (by decide +kernel)) ggL_law_X12_lower
set_option maxRecDepth 20000 in
theorem ggL_law_X11_auction : GoodIn wsL_law wsX11_auction := goodIn_r _ [800, 30, 801, 802, 803, 14, 219, 20, 265, 804, 29, 805, 806, 807, 2, 808, 705, 729, 191, 809, 165, 166, 167, 295, 296, 297, 298, 810, 811, 812, 813, 814, 815, 816, 817, 818, 11, 12, 819, 820, 821, 822, 47, 823, 824, 825, 826, 827, 828, 829, 830, 831, 832, 833, 834, 835, 836, 388, 389, 390, 837, 838, 839, 840, 841, 842, 843, 844, 845, 846, 847, 848, 954, 955, 956, 957, 958, 959, 960, 961, 1062, 1063, 1064, 1065, 1066, 1067, 1068, 1069, 1016, 1017, 1018, 1019, 1020, 1021, 1022, 1023, 1024, 1025, 1026] (by decide +kernel) (by decide +kernel)
set_option maxRecDepth 20000 in
theorem gL_law_X11_auction : GoodIn wsL_law (wsV RL 122 RX11 yX11_auction wsX11_auction) := goodIn_app (goodIn_of _ (by decide +kernel)) ggL_law_X11_auction
set_option maxRecDepth 20000 in
theorem ggL_law_X12_auction : GoodIn wsL_law wsX12_auction := goodIn_r _ [852, 156, 157, 853, 750, 110, 270, 854, 147, 855, 856, 857, 858, 859, 860, 311, 312, 313, 5, 314, 257, 258, 259, 260, 861, 862, 863, 864, 111, 962, 963, 964, 965, 966, 967, 968, 969, 970, 971, 972, 973, 974, 975, 976, 977, 978, 979, 980, 981, 982, 983, 984, 985, 986, 987, 988, 989, 990, 991, 992, 993, 994, 995, 996, 997, 998, 999, 1000, 1001, 1002, 1003, 1004, 1005, 1006, 1007, 1008, 1009, 1010, 1011, 1012, 1013, 1014, 1015] (by decide +kernel) (by decide +kernel)
set_option maxRecDepth 20000 in
theorem gL_law_X12_auction : GoodIn wsL_law (wsV RL 125 RX12 yX12_auction wsX12_auction) := goodIn_app (goodIn_of _ (by decide +kernel)) ggL_law_X12_auction
set_option maxRecDepth 20000 in
theorem ggL_law_X11_sold : GoodIn wsL_law wsX11_sold := goodIn_r _ [868, 30, 29, 869, 870, 871, 954, 955, 956, 957, 958, 959, 960, 961, 1062, 1063, 1064, 1065, 1066, 1067, 1068, 1069] (by decide +kernel) (by decide +kernel)
set_option maxRecDepth 20000 in
theorem gL_law_X11_sold : GoodIn wsL_law (wsV RL 126 RX11 yX11_sold wsX11_sold) := goodIn_app (goodIn_of _ (by decide +kernel)) ggL_law_X11_sold
set_option maxRecDepth 20000 in
theorem ggL_law_X12_sold : GoodIn wsL_law wsX12_sold := goodIn_r _ [875, 156, 157, 858, 860, 859, 857, 257, 258, 259, 5, 260, 962, 963, 964, 965, 966, 967, 968, 969, 970, 971, 972, 973, 974, 975, 976, 977, 978, 979, 980, 981, 982, 983, 984, 985, 986, 987, 988, 989, 990, 991, 992, 993, 994, 995, 996, 997, 998, 999, 1000, 1001, 1002, 1003, 1004, 1005, 1006, 1007, 1008, 1009, 1010, 1011, 1012, 1013, 1014, 1015] (by decide +kernel) (by decide +kernel)
set_option maxRecDepth 20000 in
theorem gL_law_X12_sold : GoodIn wsL_law (wsV RL 130 RX12 yX12_sold wsX12_sold) := goodIn_app (goodIn_of _ (by decide +kernel)) ggL_law_X12_sold
