set_option maxRecDepth 20000 in
theorem ggL_law_X11_hears : GoodIn wsL_law wsX11_hears := goodIn_r _ [538, 30, 24, 295, 296, 297, 2, 298, 20, 265, 515, 516, 517, 518, 497, 539, 540, 541, 23, 542, 89, 543, 520, 521, 522, 90, 954, 955, 956, 957, 958, 959, 960, 961, 1020, 1021, 1022, 1023, 1024, 1025, 1026, 1027, 1028, 1029, 1030, 1031, 1032, 1033] (by decide +kernel) (by decide +kernel)
set_option maxRecDepth 20000 in
theorem gL_law_X11_hears : GoodIn wsL_law (wsV RL 80 RX11 yX11_hears wsX11_hears) := goodIn_app (goodIn_of _ (by decide +kernel)) ggL_law_X11_hears
set_option maxRecDepth 20000 in
theorem ggL_law_X12_hears : GoodIn wsL_law wsX12_hears := goodIn_r _ [547, 156, 157, 311, 312, 313, 5, 314, 270, 257, 258, 259, 260, 531, 532, 533, 534, 506, 548, 549, 550, 551, 124, 125, 962, 963, 964, 965, 966, 967, 968, 969, 970, 971, 972, 973, 974, 975, 976, 977, 978, 979, 980, 981, 982, 983, 984, 985, 986, 987, 988, 989, 990, 991, 992, 993, 994, 995, 996, 997, 998, 999, 1000, 1001, 1002, 1003, 1004, 1005, 1006, 1007, 1008, 1009, 1010, 1011, 1012, 1013, 1014, 1015] (by decide +kernel) (by decide +kernel)
set_option maxRecDepth 20000 in
theorem gL_law_X12_hears : GoodIn wsL_law (wsV RL 83 RX12 yX12_hears wsX12_hears) := goodIn_app (goodIn_of _ (by decide +kernel)) ggL_law_X12_hears
set_option maxRecDepth 20000 in
theorem ggL_law_X11_grant : GoodIn wsL_law wsX11_grant := goodIn_r _ [555, 556, 557, 558, 30, 24, 559, 560, 561, 562, 11, 12, 563, 564, 565, 566, 567, 568, 569, 570, 2, 571, 572, 515, 516, 517, 518, 497, 295, 296, 297, 298, 20, 265, 573, 574, 575, 576, 577, 578, 579, 580, 581, 23, 582, 583, 584, 585, 586, 91, 93, 587, 588, 589, 590, 591, 592, 593, 594, 595, 392, 389, 393, 596, 597, 598, 388, 390, 599, 600, 601, 602, 603, 604, 605, 606, 607, 608, 609, 610, 611, 612, 613, 614, 92, 615, 616, 617, 618, 619, 620, 621, 1048, 1049, 1050, 1051, 1052, 954, 955, 956, 957, 958, 959, 960, 961, 1027, 1028, 1029, 1030, 1031, 1032, 1033, 1020, 1021, 1022, 1023, 1024, 1025, 1026, 1053, 1054, 1055, 1056, 1057] (by decide +kernel) (by decide +kernel)
set_option maxRecDepth 20000 in
theorem gL_law_X11_grant : GoodIn wsL_law (wsV RL 84 RX11 yX11_grant wsX11_grant) := goodIn_app (goodIn_of _ (by decide +kernel)) ggL_law_X11_grant
set_option maxRecDepth 20000 in
theorem ggL_law_X12_grant : GoodIn wsL_law wsX12_grant := goodIn_r _ [625, 156, 157, 626, 531, 532, 533, 5, 534, 506, 311, 312, 313, 314, 270, 257, 258, 259, 260, 627, 628, 629, 630, 631, 632, 633, 634, 635, 636, 637, 638, 639, 126, 128, 129, 130, 131, 640, 392, 389, 393, 641, 388, 390, 642, 643, 644, 645, 133, 132, 646, 647, 648, 649, 127, 962, 963, 964, 965, 966, 967, 968, 969, 970, 971, 972, 973, 974, 975, 976, 977, 978, 979, 980, 981, 982, 983, 984, 985, 986, 987, 988, 989, 990, 991, 992, 993, 994, 995, 996, 997, 998, 999, 1000, 1001, 1002, 1003, 1004, 1005, 1006, 1007, 1008, 1009, 1010, 1011, 1012, 1013, 1014, 1015] (by decide +kernel) (by decide +kernel)
set_option maxRecDepth 20000 in
theorem gL_law_X12_grant : GoodIn wsL_law (wsV RL 88 RX12 yX12_grant wsX12_grant) := goodIn_app (goodIn_of _ (by decide +kernel)) ggL_law_X12_grant
set_option maxRecDepth 20000 in
theorem ggL_law_X11_end : GoodIn wsL_law wsX11_end := goodIn_r _ [653, 30, 24, 654, 655, 656, 657, 2, 658, 572, 659, 660, 577, 578, 661, 662, 663, 591, 664, 620, 596, 598, 388, 389, 390, 954, 955, 956, 957, 958, 959, 960, 961, 1027, 1028, 1029, 1030, 1031, 1032, 1033, 1053, 1054, 1055, 1056, 1057] (by decide +kernel) (by decide +kernel)
set_option maxRecDepth 20000 in
theorem gL_law_X11_end : GoodIn wsL_law (wsV RL 89 RX11 yX11_end wsX11_end) := goodIn_app (goodIn_of _ (by decide +kernel)) ggL_law_X11_end
set_option maxRecDepth 20000 in
theorem ggL_law_X12_end : GoodIn wsL_law wsX12_end := goodIn_r _ [668, 156, 157, 626, 133, 179, 180, 181, 5, 182, 633, 634, 635, 962, 963, 964, 965, 966, 967, 968, 969, 970, 971, 972, 973, 974, 975, 976, 977, 978, 979, 980, 981, 982, 983, 984, 985, 986, 987, 988, 989, 990, 991, 992, 993, 994, 995, 996, 997, 998, 999, 1000, 1001, 1002, 1003, 1004, 1005, 1006, 1007, 1008, 1009, 1010, 1011, 1012, 1013, 1014, 1015] (by decide +kernel) (by decide +kernel)
set_option maxRecDepth 20000 in
theorem gL_law_X12_end : GoodIn wsL_law (wsV RL 93 RX12 yX12_end wsX12_end) := goodIn_app (goodIn_of _ (by decide +kernel)) ggL_law_X12_end
set_option maxRecDepth 20000 in
theorem ggL_law_X11_has : GoodIn wsL_law wsX11_has := goodIn_r _ [672, 30, 24, 556, 557, 558, 673, 674, 675, 2, 676, 515, 516, 517, 518, 497, 660, 577, 578, 559, 560, 561, 562, 11, 12, 563, 564, 565, 566, 567, 677, 584, 585, 23, 586, 91, 93, 587, 588, 589, 590, 591, 592, 593, 594, 595, 392, 389, 393, 596, 597, 598, 388, 390, 599, 600, 601, 602, 603, 604, 605, 606, 607, 608, 609, 610, 954, 955, 956, 957, 958, 959, 960, 961, 1048, 1049, 1050, 1051, 1052, 1027, 1028, 1029, 1030, 1031, 1032, 1033, 1053, 1054, 1055, 1056, 1057] (by decide +kernel) (by decide +kernel)
set_option maxRecDepth 20000 in
theorem gL_law_X11_has : GoodIn wsL_law (wsV RL 94 RX11 yX11_has wsX11_has) := goodIn_app (goodIn_of _ (by decide +kernel)) ggL_law_X11_has
set_option maxRecDepth 20000 in
theorem ggL_law_X12_has : GoodIn wsL_law wsX12_has := goodIn_r _ [681, 156, 157, 127, 531, 532, 533, 5, 534, 506, 257, 258, 259, 260, 633, 634, 635, 682, 683, 684, 685, 626, 126, 128, 129, 130, 131, 642, 643, 644, 645, 133, 132, 641, 388, 389, 390, 962, 963, 964, 965, 966, 967, 968, 969, 970, 971, 972, 973, 974, 975, 976, 977, 978, 979, 980, 981, 982, 983, 984, 985, 986, 987, 988, 989, 990, 991, 992, 993, 994, 995, 996, 997, 998, 999, 1000, 1001, 1002, 1003, 1004, 1005, 1006, 1007, 1008, 1009, 1010, 1011, 1012, 1013, 1014, 1015] (by decide +kernel) (by decide +kernel)
set_option maxRecDepth 20000 in
theorem gL_law_X12_has : GoodIn wsL_law (wsV RL 98 RX12 yX12_has wsX12_has) := goodIn_app (goodIn_of _ (by decide +kernel)) ggL_law_X12_has
set_option maxRecDepth 20000 in
theorem ggL_law_X11_left : GoodIn wsL_law wsX11_left := goodIn_r _ [689, 556, 557, 558, 30, 24, 559, 560, 561, 562, 11, 12, 563, 564, 565, 566, 567, 515, 516, 517, 2, 518, 497, 573, 574, 575, 576, 577, 578, 690, 691, 692, 693, 604, 605, 606, 607, 608, 609, 610, 694, 695, 696, 23, 697, 91, 93, 588, 589, 590, 591, 592, 593, 594, 595, 392, 389, 393, 596, 597, 598, 388, 390, 599, 600, 601, 602, 603, 698, 699, 700, 701, 31, 32, 702, 703, 704, 705, 1048, 1049, 1050, 1051, 1052, 954, 955, 956, 957, 958, 959, 960, 961, 1027, 1028, 1029, 1030, 1031, 1032, 1033, 1053, 1054, 1055, 1056, 1057] (by decide +kernel) (by decide +kernel)
set_option maxRecDepth 20000 in
theorem gL_law_X11_left : GoodIn wsL_law (wsV RL 99 RX11 yX11_left wsX11_left) := goodIn_app (goodIn_of _ (by decide +kernel)) ggL_law_X11_left
set_option maxRecDepth 20000 in
theorem ggL_law_X12_left : GoodIn wsL_law wsX12_left := goodIn_r _ [709, 156, 157, 710, 108, 531, 532, 533, 5, 534, 506, 179, 180, 181, 182, 630, 631, 632, 633, 634, 635, 682, 683, 684, 685, 626, 126, 128, 129, 130, 131, 642, 643, 644, 645, 133, 132, 641, 388, 389, 390, 711, 712, 713, 962, 963, 964, 965, 966, 967, 968, 969, 970, 971, 972, 973, 974, 975, 976, 977, 978, 979, 980, 981, 982, 983, 984, 985, 986, 987, 988, 989, 990, 991, 992, 993, 994, 995, 996, 997, 998, 999, 1000, 1001, 1002, 1003, 1004, 1005, 1006, 1007, 1008, 1009, 1010, 1011, 1012, 1013, 1014, 1015] (by decide +kernel) (by decide +kernel)
set_option maxRecDepth 20000 in
theorem gL_law_X12_left : GoodIn wsL_law (wsV RL 102 RX12 yX12_left wsX12_left) := goodIn_app (goodIn_of _ (by decide +kernel)) ggL_law_X12_left
set_option maxRecDepth 20000 in
theorem ggL_law_X11_option : GoodIn wsL_law wsX11_option := goodIn_r _ [717, 30, 24, 718, 719, 720, 721, 722, 723, 2, 724, 725, 515, 516, 517, 518, 497, 295, 296, 297, 298, 20, 265, 726, 727, 728, 729, 730, 731, 732, 733, 11, 12, 734, 735, 736, 737, 738, 739, 740, 23, 741, 96, 94, 954, 955, 956, 957, 958, 959, 960, 961, 1058, 1059, 1060, 1061, 1027, 1028, 1029, 1030, 1031, 1032, 1033, 1020, 1021, 1022, 1023, 1024, 1025, 1026] (by decide +kernel) (by decide +kernel)
set_option maxRecDepth 20000 in
theorem gL_law_X11_option : GoodIn wsL_law (wsV RL 103 RX11 yX11_option wsX11_option) := goodIn_app (goodIn_of _ (by decide +kernel)) ggL_law_X11_option
set_option maxRecDepth 20000 in
theorem ggL_law_X12_option : GoodIn wsL_law wsX12_option := goodIn_r _ [745, 156, 157, 746, 134, 135, 136, 137, 531, 532, 533, 5, 534, 506, 311, 312, 313, 314, 270, 179, 180, 181, 182, 747, 748, 749, 750, 962, 963, 964, 965, 966, 967, 968, 969, 970, 971, 972, 973, 974, 975, 976, 977, 978, 979, 980, 981, 982, 983, 984, 985, 986, 987, 988, 989, 990, 991, 992, 993, 994, 995, 996, 997, 998, 999, 1000, 1001, 1002, 1003, 1004, 1005, 1006, 1007, 1008, 1009, 1010, 1011, 1012, 1013, 1014, 1015] (by decide +kernel) (by decide +kernel)
set_option maxRecDepth 20000 in
theorem gL_law_X12_option : GoodIn wsL_law (wsV RL 107 RX12 yX12_option wsX12_option) := goodIn_app (goodIn_of _ (by decide +kernel)) ggL_law_X12_option
set_option maxRecDepth 20000 in
theorem ggL_law_X11_may : GoodIn wsL_law wsX11_may := goodIn_r _ [754, 556, 557, 558, 30, 24, 559, 560, 561, 562, 11, 12, 563, 564, 565, 566, 567, 755, 756, 757, 2, 758, 515, 516, 517, 518, 497, 295, 296, 297, 298, 20, 265, 573, 574, 575, 576, 577, 578, 726, 727, 728, 729, 759, 760, 761, 23, 762, 763, 540, 541, 542, 89, 543, 520, 521, 522, 90, 764, 765, 766, 767, 94, 96, 768, 769, 770, 720, 771, 734, 735, 736, 737, 772, 580, 581, 582, 583, 584, 585, 586, 91, 93, 587, 588, 589, 590, 591, 592, 593, 594, 595, 392, 389, 393, 596, 597, 598, 388, 390, 599, 600, 601, 602, 603, 604, 605, 606, 607, 608, 609, 610, 1048, 1049, 1050, 1051, 1052, 954, 955, 956, 957, 958, 959, 960, 961, 1027, 1028, 1029, 1030, 1031, 1032, 1033, 1020, 1021, 1022, 1023, 1024, 1025, 1026, 1058, 1059, 1060, 1061, 1053, 1054, 1055, 1056, 1057] (by decide +kernel) (by decide +kernel)
set_option maxRecDepth 20000 in
theorem gL_law_X11_may : GoodIn wsL_law (wsV RL 108 RX11 yX11_may wsX11_may) := goodIn_app (goodIn_of _ (by decide +kernel)) ggL_law_X11_may
set_option maxRecDepth 20000 in
theorem ggL_law_X12_may : GoodIn wsL_law wsX12_may := goodIn_r _ [776, 156, 157, 531, 532, 533, 5, 534, 506, 311, 312, 313, 314, 270, 257, 258, 259, 260, 627, 628, 629, 630, 631, 632, 633, 634, 635, 747, 748, 749, 750, 777, 778, 779, 780, 746, 134, 135, 136, 137, 548, 549, 550, 551, 124, 125, 636, 637, 638, 639, 626, 126, 128, 129, 130, 131, 640, 392, 389, 393, 641, 388, 390, 642, 643, 644, 645, 133, 132, 962, 963, 964, 965, 966, 967, 968, 969, 970, 971, 972, 973, 974, 975, 976, 977, 978, 979, 980, 981, 982, 983, 984, 985, 986, 987, 988, 989, 990, 991, 992, 993, 994, 995, 996, 997, 998, 999, 1000, 1001, 1002, 1003, 1004, 1005, 1006, 1007, 1008, 1009, 1010, 1011, 1012, 1013, 1014, 1015] (by decide +kernel) (by decide +kernel)
set_option maxRecDepth 20000 in
theorem gL_law_X12_may : GoodIn wsL_law (wsV RL 112 RX12 yX12_may wsX12_may) := goodIn_app (goodIn_of _ (by decide +kernel)) ggL_law_X12_may
set_option maxRecDepth 20000 in
theorem ggL_law_X11_upper : GoodIn wsL_law wsX11_upper := goodIn_r _ [784, 31, 954, 955, 956, 957, 958, 959, 960, 961] (by decide +kernel) (by decide +kernel)
set_option maxRecDepth 20000 in
theorem gL_law_X11_upper : GoodIn wsL_law (wsV RL 113 RX11 yX11_upper wsX11_upper) := goodIn_app (goodIn_of _ (by decide +kernel)) ggL_law_X11_upper
