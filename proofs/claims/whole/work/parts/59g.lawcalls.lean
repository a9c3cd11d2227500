set_option maxRecDepth 20000 in
theorem ggL_law_X11_grant : GoodIn wsL_law wsX11_grant := goodIn_r _ [555, 556, 557, 558, 30, 24, 559, 560, 561, 562, 11, 12, 563, 564, 565, 566, 567, 568, 569, 570, 2, 571, 572, 515, 516, 517, 518, 497, 295, 296, 297, 298, 20, 265, 573, 574, 575, 576, 577, 578, 579, 580, 581, 23, 582, 583, 584, 585, 586, 91, 93, 587, 588, 589, 590, 591, 592, 593, 594, 595, 392, 389, 393, 596, 597, 598, 388, 390, 599, 600, 601, 602, 603, 604, 605, 606, 607, 608, 609, 610, 611, 612, 613, 614, 92, 615, 616, 617, 618, 619, 620, 621, 1048, 1049, 1050, 1051, 1052, 954, 955, 956, 957, 958, 959, 960, 961, 1027, 1028, 1029, 1030, 1031, 1032, 1033, 1020, 1021, 1022, 1023, 1024, 1025, 1026, 1053, 1054, 1055, 1056, 1057] (by decide +kernel) (by decide +kernel)
set_option maxRecDepth 20000 in
theorem gL_law_X11_grant : GoodIn wsL_law (wsV RL 84 RX11 yX11_grant wsX11_grant) := goodIn_app (goodIn_of _ (by decide +kernel)) ggL_law_X11_grant
set_option maxRecDepth 20000 in
theorem ggL_law_X12_grant : GoodIn wsL_law wsX12_grant := goodIn_r _ [625, 156, 157, 626, 531, 532, 533, 5, 534, 506, 311, 312, 313, 314, 270, 257, 258, 259, 260, 627, 628, 629, 630, 631, 632, 633, 634, 635, 636, 637, 638, 639, 126, 128, 129, 130, 131, 640, 392, 389, 393, 641, 388, 390, 642, 643, 644, 645, 133, 132, 646, 647, 648, 649, 127, 962, 963, 964, 965, 966, 967, 968, 969, 970, 971, 972, 973, 974, 975, 976, 977, 978, 979, 980, 981, 982, 983, 984, 985, 986, 987, 988, 989, 990, 991, 992, 993, 994, 995, 996, 997, 998, 999, 1000, 1001, 1002, 1003, 1004, 1005, 1006, 1007, 1008, 1009, 1010, 1011, 1012, 1013, 1014, 1015] (by decide +kernel) (by decide +kernel)
set_option maxRecDepth 20000 in
theorem gL_law_X12_grant : GoodIn wsL_law (wsV RL 88 RX12 yX12_grant wsX12_grant) := goodIn_app (goodIn_of _ (by decide +kernel)) ggL_law_X12_grant
set_option maxRecDepth 20000 in
theorem ggL_law_X11_end : GoodIn wsL_law wsX11_end := goodIn_r _ [653, 30, 24, 654, 655, 656, 657, 2, 658, 572, 659, 660, 577, 578, 661, 662, 663, 591, 664, 620, 596, 598, 388, 389, 390, 954, 955, 956, 957, 958, 959, 960, 961, 1027, 1028, 1029, 1030, 1031, 1032, 1033, 1053, 1054, 1055, 1056, 1057] (by decide +kernel) (by decide +kernel)
set_option maxRecDepth 20000 in
theorem gL_law_X11_end : GoodIn wsL_law (wsV RL 89 RX11 yX11_end wsX11_end) := goodIn_app (goodIn_of _ (by decide +kernel)) ggL_law_X11_end
set_option maxRecDepth 20000 in
theorem ggL_law_X12_end : GoodIn wsL_law wsX12_end := goodIn_r _ [668, 156, 157, 626, 133, 179, 180, 181, 5, 182, 633, 634, 635, 962, 963, 964, 965, 966, 967, 968, 969, 970, 971, 972, 973, 974, 975, 976, 977, 978, 979, 980, 981, 982, 983, 984, 985, 986, 987, 988, 989, 990, 991, 992, 993, 994, 995, 996, 997, 998, 999, 1000, 1001, 1002, 1003, 1004, 1005, 1006, 1007, 1008, 1009, 1010, 1011, 1012, 1013, 1014, 1015] (by decide +kernel) (by decide +kernel)
set_option maxRecDepth 20000 in
theorem gL_law_X12_end : GoodIn wsL_law (wsV RL 93 RX12 yX12_end wsX12_end) := goodIn_app (goodIn_of _ (by decide +kernel)) ggL_law_X12_end
set_option maxRecDepth 20000 in
theorem ggL_law_X11_has : GoodIn wsL_law wsX11_has := goodIn_r _ [672, 30, 24, 556, 557, 558, 673, 674, 675, 2, 676, 515, 516, 517, 518, 497, 660, 577, 578, 559, 560, 561, 562, 11, 12, 563, 564, 565, 566, 567, 677, 584, 585, 23, 586, 91, 93, 587, 588, 589, 590, 591, 592, 593, 594, 595, 392, 389, 393, 596, 597, 598, 388, 390, 599, 600, 601, 602, 603, 604, 605, 606, 607, 608, 609, 610, 954, 955, 956, 957, 958, 959, 960, 961, 1048, 1049, 1050, 1051, 1052, 1027, 1028, 1029, 1030, 1031, 1032, 1033, 1053, 1054, 1055, 1056, 1057] (by decide +kernel) (by decide +kernel)
set_option maxRecDepth 20000 in
theorem gL_law_X11_has : GoodIn wsL_law (wsV RL 94 RX11 yX11_has wsX11_has) := goodIn_app (goodIn_of _ (by decide +kernel)) ggL_law_X11_has
