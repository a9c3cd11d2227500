set_option maxRecDepth 20000 in
theorem ggL_law_X11_may : GoodIn wsL_law wsX11_may := goodIn_r _ [754, 556, 557, 558, 30, 24, 559, 560, 561, 562, 11, 12, 563, 564, 565, 566, 567, 755, 756, 757, 2, 758, 515, 516, 517, 518, 497, 295, 296, 297, 298, 20, 265, 573, 574, 575, 576, 577, 578, 726, 727, 728, 729, 759, 760, 761, 23, 762, 763, 540, 541, 542, 89, 543, 520, 521, 522, 90, 764, 765, 766, 767, 94, 96, 768, 769, 770, 720, 771, 734, 735, 736, 737, 772, 580, 581, 582, 583, 584, 585, 586, 91, 93, 587, 588, 589, 590, 591, 592, 593, 594, 595, 392, 389, 393, 596, 597, 598, 388, 390, 599, 600, 601, 602, 603, 604, 605, 606, 607, 608, 609, 610, 1048, 1049, 1050, 1051, 1052, 954, 955, 956, 957, 958, 959, 960, 961, 1027, 1028, 1029, 1030, 1031, 1032, 1033, 1020, 1021, 1022, 1023, 1024, 1025, 1026, 1058, 1059, 1060, 1061, 1053, 1054, 1055, 1056, 1057] (by decide +kernel) (by decide +kernel)
set_option maxRecDepth 20000 in
theorem gL_law_X11_may : GoodIn wsL_law (wsV RL 108 RX11 yX11_may wsX11_may) := goodIn_app (goodIn_of _ (by decide +kernel)) ggL_law_X11_may
set_option maxRecDepth 20000 in
theorem ggL_law_X12_may : GoodIn wsL_law wsX12_may := goodIn_r _ [776, 156, 157, 531, 532, 533, 5, 534, 506, 311, 312, 313, 314, 270, 257, 258, 259, 260, 627, 628, 629, 630, 631, 632, 633, 634, 635, 747, 748, 749, 750, 777, 778, 779, 780, 746, 134, 135, 136, 137, 548, 549, 550, 551, 124, 125, 636, 637, 638, 639, 626, 126, 128, 129, 130, 131, 640, 392, 389, 393, 641, 388, 390, 642, 643, 644, 645, 133, 132, 962, 963, 964, 965, 966, 967, 968, 969, 970, 971, 972, 973, 974, 975, 976, 977, 978, 979, 980, 981, 982, 983, 984, 985, 986, 987, 988, 989, 990, 991, 992, 993, 994, 995, 996, 997, 998, 999, 1000, 1001, 1002, 1003, 1004, 1005, 1006, 1007, 1008, 1009, 1010, 1011, 1012, 1013, 1014, 1015] (by decide +kernel) (by decide +kernel)
set_option maxRecDepth 20000 in
theorem gL_law_X12_may : GoodIn wsL_law (wsV RL 112 RX12 yX12_may wsX12_may) := goodIn_app (goodIn_of _ (by decide +kernel)) ggL_law_X12_may
set_option maxRecDepth 20000 in
theorem ggL_law_X11_upper : GoodIn wsL_law wsX11_upper := goodIn_r _ [784, 31, 954, 955, 956, 957, 958, 959, 960, 961] (by decide +kernel) (by decide +kernel)
set_option maxRecDepth 20000 in
theorem gL_law_X11_upper : GoodIn wsL_law (wsV RL 113 RX11 yX11_upper wsX11_upper) := goodIn_app (goodIn_of _ (by decide +kernel)) ggL_law_X11_upper
set_option maxRecDepth 20000 in
theorem ggL_law_X12_upper : GoodIn wsL_law wsX12_upper := goodIn_r _ [788, 156, 710, 962, 963, 964, 965, 966, 967, 968, 969, 970, 971, 972, 973, 974, 975, 976, 977, 978, 979, 980, 981, 982, 983, 984, 985, 986, 987, 988, 989, 990, 991, 992, 993, 994, 995, 996, 997, 998, 999, 1000, 1001, 1002, 1003, 1004, 1005, 1006, 1007, 1008, 1009, 1010, 1011, 1012, 1013, 1014, 1015] (by decide +kernel) (by decide +kernel)
set_option maxRecDepth 20000 in
theorem gL_law_X12_upper : GoodIn wsL_law (wsV RL 117 RX12 yX12_upper wsX12_upper) := goodIn_app (goodIn_of _ (by decide +kernel)) ggL_law_X12_upper
set_option maxRecDepth 20000 in
theorem ggL_law_X11_lower : GoodIn wsL_law wsX11_lower := goodIn_r _ [792, 32, 954, 955, 956, 957, 958, 959, 960, 961] (by decide +kernel) (by decide +kernel)
set_option maxRecDepth 20000 in
theorem gL_law_X11_lower : GoodIn wsL_law (wsV RL 118 RX11 yX11_lower wsX11_lower) := goodIn_app (goodIn_of _ (by decide +kernel)) ggL_law_X11_lower
