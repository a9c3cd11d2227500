set_option maxRecDepth 20000 in
theorem ggL_law_X12_editor : GoodIn wsL_law wsX12_editor := goodIn_r _ [269, 156, 157, 270, 257, 258, 259, 5, 260, 962, 963, 964, 965, 966, 967, 968, 969, 970, 971, 972, 973, 974, 975, 976, 977, 978, 979, 980, 981, 982, 983, 984, 985, 986, 987, 988, 989, 990, 991, 992, 993, 994, 995, 996, 997, 998, 999, 1000, 1001, 1002, 1003, 1004, 1005, 1006, 1007, 1008, 1009, 1010, 1011, 1012, 1013, 1014, 1015] (by decide +kernel) (by decide +kernel)
set_option maxRecDepth 20000 in
theorem gL_law_X12_editor : GoodIn wsL_law (wsV RL 47 RX12 yX12_editor wsX12_editor) := goodIn_app (goodIn_of _ (by decide +kernel)) ggL_law_X12_editor
set_option maxRecDepth 20000 in
theorem ggL_law_X11_hours : GoodIn wsL_law wsX11_hours := goodIn_r _ [274, 30, 20, 275, 276, 277, 19, 278, 46, 57, 954, 955, 956, 957, 958, 959, 960, 961, 1020, 1021, 1022, 1023, 1024, 1025, 1026] (by decide +kernel) (by decide +kernel)
set_option maxRecDepth 20000 in
theorem gL_law_X11_hours : GoodIn wsL_law (wsV RL 48 RX11 yX11_hours wsX11_hours) := goodIn_app (goodIn_of _ (by decide +kernel)) ggL_law_X11_hours
set_option maxRecDepth 20000 in
theorem ggL_law_X12_hours : GoodIn wsL_law wsX12_hours := goodIn_r _ [282, 156, 157, 112, 179, 180, 181, 5, 182, 962, 963, 964, 965, 966, 967, 968, 969, 970, 971, 972, 973, 974, 975, 976, 977, 978, 979, 980, 981, 982, 983, 984, 985, 986, 987, 988, 989, 990, 991, 992, 993, 994, 995, 996, 997, 998, 999, 1000, 1001, 1002, 1003, 1004, 1005, 1006, 1007, 1008, 1009, 1010, 1011, 1012, 1013, 1014, 1015] (by decide +kernel) (by decide +kernel)
set_option maxRecDepth 20000 in
theorem gL_law_X12_hours : GoodIn wsL_law (wsV RL 52 RX12 yX12_hours wsX12_hours) := goodIn_app (goodIn_of _ (by decide +kernel)) ggL_law_X12_hours
set_option maxRecDepth 20000 in
theorem ggL_law_X11_worth : GoodIn wsL_law wsX11_worth := goodIn_r _ [286, 30, 20, 287, 288, 289, 2, 290, 291, 292, 293, 294, 251, 295, 296, 297, 298, 265, 299, 300, 301, 19, 302, 48, 57, 954, 955, 956, 957, 958, 959, 960, 961, 1020, 1021, 1022, 1023, 1024, 1025, 1026] (by decide +kernel) (by decide +kernel)
set_option maxRecDepth 20000 in
theorem gL_law_X11_worth : GoodIn wsL_law (wsV RL 53 RX11 yX11_worth wsX11_worth) := goodIn_app (goodIn_of _ (by decide +kernel)) ggL_law_X11_worth
set_option maxRecDepth 20000 in
theorem ggL_law_X12_worth : GoodIn wsL_law wsX12_worth := goodIn_r _ [306, 156, 157, 113, 307, 308, 309, 5, 310, 256, 311, 312, 313, 314, 270, 179, 180, 181, 182, 962, 963, 964, 965, 966, 967, 968, 969, 970, 971, 972, 973, 974, 975, 976, 977, 978, 979, 980, 981, 982, 983, 984, 985, 986, 987, 988, 989, 990, 991, 992, 993, 994, 995, 996, 997, 998, 999, 1000, 1001, 1002, 1003, 1004, 1005, 1006, 1007, 1008, 1009, 1010, 1011, 1012, 1013, 1014, 1015] (by decide +kernel) (by decide +kernel)
set_option maxRecDepth 20000 in
theorem gL_law_X12_worth : GoodIn wsL_law (wsV RL 56 RX12 yX12_worth wsX12_worth) := goodIn_app (goodIn_of _ (by decide +kernel)) ggL_law_X12_worth
