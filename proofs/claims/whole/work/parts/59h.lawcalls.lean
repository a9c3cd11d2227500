set_option maxRecDepth 20000 in
theorem ggL_law_X12_has : GoodIn wsL_law wsX12_has := goodIn_r _ [681, 156, 157, 127, 531, 532, 533, 5, 534, 506, 257, 258, 259, 260, 633, 634, 635, 682, 683, 684, 685, 626, 126, 128, 129, 130, 131, 642, 643, 644, 645, 133, 132, 641, 388, 389, 390, 962, 963, 964, 965, 966, 967, 968, 969, 970, 971, 972, 973, 974, 975, 976, 977, 978, 979, 980, 981, 982, 983, 984, 985, 986, 987, 988, 989, 990, 991, 992, 993, 994, 995, 996, 997, 998, 999, 1000, 1001, 1002, 1003, 1004, 1005, 1006, 1007, 1008, 1009, 1010, 1011, 1012, 1013, 1014, 1015] (by decide +kernel) (by decide +kernel)
set_option maxRecDepth 20000 in
theorem gL_law_X12_has : GoodIn wsL_law (wsV RL 98 RX12 yX12_has wsX12_has) := goodIn_app (goodIn_of _ (by decide +kernel)) ggL_law_X12_has
set_option maxRecDepth 20000 in
theorem ggL_law_X11_left : GoodIn wsL_law wsX11_left := goodIn_r _ [689, 556, 557, 558, 30, 24, 559, 560, 561, 562, 11, 12, 563, 564, 565, 566, 567, 515, 516, 517, 2, 518, 497, 573, 574, 575, 576, 577, 578, 690, 691, 692, 693, 604, 605, 606, 607, 608, 609, 610, 694, 695, 696, 23, 697, 91, 93, 588, 589, 590, 591, 592, 593, 594, 595, 392, 389, 393, 596, 597, 598, 388, 390, 599, 600, 601, 602, 603, 698, 699, 700, 701, 31, 32, 702, 703, 704, 705, 1048, 1049, 1050, 1051, 1052, 954, 955, 956, 957, 958, 959, 960, 961, 1027, 1028, 1029, 1030, 1031, 1032, 1033, 1053, 1054, 1055, 1056, 1057] (by decide +kernel) (by decide +kernel)
set_option maxRecDepth 20000 in
theorem gL_law_X11_left : GoodIn wsL_law (wsV RL 99 RX11 yX11_left wsX11_left) := goodIn_app (goodIn_of _ (by decide +kernel)) ggL_law_X11_left
set_option maxRecDepth 20000 in
theorem ggL_law_X12_left : GoodIn wsL_law wsX12_left := goodIn_r _ [709, 156, 157, 710, 108, 531, 532, 533, 5, 534, 506, 179, 180, 181, 182, 630, 631, 632, 633, 634, 635, 682, 683, 684, 685, 626, 126, 128, 129, 130, 131, 642, 643, 644, 645, 133, 132, 641, 388, 389, 390, 711, 712, 713, 962, 963, 964, 965, 966, 967, 968, 969, 970, 971, 972, 973, 974, 975, 976, 977, 978, 979, 980, 981, 982, 983, 984, 985, 986, 987, 988, 989, 990, 991, 992, 993, 994, 995, 996, 997, 998, 999, 1000, 1001, 1002, 1003, 1004, 1005, 1006, 1007, 1008, 1009, 1010, 1011, 1012, 1013, 1014, 1015] (by decide +kernel) (by decide +kernel)
set_option maxRecDepth 20000 in
theorem gL_law_X12_left : GoodIn wsL_law (wsV RL 102 RX12 yX12_left wsX12_left) := goodIn_app (goodIn_of _ (by decide +kernel)) ggL_law_X12_left
set_option maxRecDepth 20000 in
theorem ggL_law_X11_option : GoodIn wsL_law wsX11_option := goodIn_r _ [717, 30, 24, 718, 719, 720, 721, 722, 723, 2, 724, 725, 515, 516, 517, 518, 497, 295, 296, 297, 298, 20, 265, 726, 727, 728, 729, 730, 731, 732, 733, 11, 12, 734, 735, 736, 737, 738, 739, 740, 23, 741, 96, 94, 954, 955, 956, 957, 958, 959, 960, 961, 1058, 1059, 1060, 1061, 1027, 1028, 1029, 1030, 1031, 1032, 1033, 1020, 1021, 1022, 1023, 1024, 1025, 1026] (by decide +kernel) (by decide +kernel)
set_option maxRecDepth 20000 in
theorem gL_law_X11_option : GoodIn wsL_law (wsV RL 103 RX11 yX11_option wsX11_option) := goodIn_app (goodIn_of _ (by decide +kernel)) ggL_law_X11_option
set_option maxRecDepth 20000 in
theorem ggL_law_X12_option : GoodIn wsL_law wsX12_option := goodIn_r _ [745, 156, 157, 746, 134, 135, 136, 137, 531, 532, 533, 5, 534, 506, 311, 312, 313, 314, 270, 179, 180, 181, 182, 747, 748, 749, 750, 962, 963, 964, 965, 966, 967, 968, 969, 970, 971, 972, 973, 974, 975, 976, 977, 978, 979, 980, 981, 982, 983, 984, 985, 986, 987, 988, 989, 990, 991, 992, 993, 994, 995, 996, 997, 998, 999, 1000, 1001, 1002, 1003, 1004, 1005, 1006, 1007, 1008, 1009, 1010, 1011, 1012, 1013, 1014, 1015] (by decide +kernel) (by decide +kernel)
set_option maxRecDepth 20000 in
theorem gL_law_X12_option : GoodIn wsL_law (wsV RL 107 RX12 yX12_option wsX12_option) := goodIn_app (goodIn_of _ (by decide +kernel)) ggL_law_X12_option
