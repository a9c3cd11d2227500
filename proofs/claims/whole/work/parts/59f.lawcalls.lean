set_option maxRecDepth 20000 in
theorem ggL_law_X12_book : GoodIn wsL_law wsX12_book := goodIn_r _ [505, 156, 157, 506, 124, 257, 258, 259, 5, 260, 962, 963, 964, 965, 966, 967, 968, 969, 970, 971, 972, 973, 974, 975, 976, 977, 978, 979, 980, 981, 982, 983, 984, 985, 986, 987, 988, 989, 990, 991, 992, 993, 994, 995, 996, 997, 998, 999, 1000, 1001, 1002, 1003, 1004, 1005, 1006, 1007, 1008, 1009, 1010, 1011, 1012, 1013, 1014, 1015] (by decide +kernel) (by decide +kernel)
set_option maxRecDepth 20000 in
theorem gL_law_X12_book : GoodIn wsL_law (wsV RL 74 RX12 yX12_book wsX12_book) := goodIn_app (goodIn_of _ (by decide +kernel)) ggL_law_X12_book
set_option maxRecDepth 20000 in
theorem ggL_law_X11_list : GoodIn wsL_law wsX11_list := goodIn_r _ [510, 30, 24, 511, 512, 513, 2, 514, 515, 516, 517, 518, 497, 295, 296, 297, 298, 20, 265, 519, 520, 521, 23, 522, 90, 523, 524, 525, 526, 954, 955, 956, 957, 958, 959, 960, 961, 1027, 1028, 1029, 1030, 1031, 1032, 1033, 1020, 1021, 1022, 1023, 1024, 1025, 1026] (by decide +kernel) (by decide +kernel)
set_option maxRecDepth 20000 in
theorem gL_law_X11_list : GoodIn wsL_law (wsV RL 75 RX11 yX11_list wsX11_list) := goodIn_app (goodIn_of _ (by decide +kernel)) ggL_law_X11_list
set_option maxRecDepth 20000 in
theorem ggL_law_X12_list : GoodIn wsL_law wsX12_list := goodIn_r _ [530, 156, 157, 125, 531, 532, 533, 5, 534, 506, 311, 312, 313, 314, 270, 179, 180, 181, 182, 962, 963, 964, 965, 966, 967, 968, 969, 970, 971, 972, 973, 974, 975, 976, 977, 978, 979, 980, 981, 982, 983, 984, 985, 986, 987, 988, 989, 990, 991, 992, 993, 994, 995, 996, 997, 998, 999, 1000, 1001, 1002, 1003, 1004, 1005, 1006, 1007, 1008, 1009, 1010, 1011, 1012, 1013, 1014, 1015] (by decide +kernel) (by decide +kernel)
set_option maxRecDepth 20000 in
theorem gL_law_X12_list : GoodIn wsL_law (wsV RL 79 RX12 yX12_list wsX12_list) := goodIn_app (goodIn_of _ (by decide +kernel)) ggL_law_X12_list
set_option maxRecDepth 20000 in
theorem ggL_law_X11_hears : GoodIn wsL_law wsX11_hears := goodIn_r _ [538, 30, 24, 295, 296, 297, 2, 298, 20, 265, 515, 516, 517, 518, 497, 539, 540, 541, 23, 542, 89, 543, 520, 521, 522, 90, 954, 955, 956, 957, 958, 959, 960, 961, 1020, 1021, 1022, 1023, 1024, 1025, 1026, 1027, 1028, 1029, 1030, 1031, 1032, 1033] (by decide +kernel) (by decide +kernel)
set_option maxRecDepth 20000 in
theorem gL_law_X11_hears : GoodIn wsL_law (wsV RL 80 RX11 yX11_hears wsX11_hears) := goodIn_app (goodIn_of _ (by decide +kernel)) ggL_law_X11_hears
set_option maxRecDepth 20000 in
theorem ggL_law_X12_hears : GoodIn wsL_law wsX12_hears := goodIn_r _ [547, 156, 157, 311, 312, 313, 5, 314, 270, 257, 258, 259, 260, 531, 532, 533, 534, 506, 548, 549, 550, 551, 124, 125, 962, 963, 964, 965, 966, 967, 968, 969, 970, 971, 972, 973, 974, 975, 976, 977, 978, 979, 980, 981, 982, 983, 984, 985, 986, 987, 988, 989, 990, 991, 992, 993, 994, 995, 996, 997, 998, 999, 1000, 1001, 1002, 1003, 1004, 1005, 1006, 1007, 1008, 1009, 1010, 1011, 1012, 1013, 1014, 1015] (by decide +kernel) (by decide +kernel)
set_option maxRecDepth 20000 in
theorem gL_law_X12_hears : GoodIn wsL_law (wsV RL 83 RX12 yX12_hears wsX12_hears) := goodIn_app (goodIn_of _ (by decide +kernel)) ggL_law_X12_hears
