/-! ===== THE LAW'S OWN WORDS 3 ===== -/
set_option maxRecDepth 20000 in
theorem lt_wsL_holds_7 : GoodIn lw_tbl2 wsL_holds_r8 := goodIn_r _ [696, 697, 81, 698, 699, 700, 701, 702, 716, 717, 718, 719, 720, 1596, 715, 721, 722, 706, 725, 726, 727, 728, 729, 1597] (by decide +kernel) (by decide +kernel)
set_option maxRecDepth 20000 in
theorem lt_wsL_holds_8 : GoodIn lw_tbl2 wsL_holds_r9 := goodIn_r _ [730, 731, 732, 1598, 0, 734, 735, 736, 1599, 1, 738, 739, 740, 1600, 2, 742, 743, 754, 744, 745, 82, 746, 747, 748] (by decide +kernel) (by decide +kernel)
set_option maxRecDepth 20000 in
theorem lt_wsL_holds_9 : GoodIn lw_tbl2 wsL_holds_r10 := goodIn_r _ [749, 750, 751, 752, 753, 755, 756, 84, 757, 758, 759, 760, 761, 762, 764, 765, 766, 767, 768, 769, 771, 772, 770, 773] (by decide +kernel) (by decide +kernel)
set_option maxRecDepth 20000 in
theorem lt_wsL_holds_10 : GoodIn lw_tbl2 wsL_holds_r11 := goodIn_r _ [774, 775, 776, 794, 777, 778, 779, 780, 781, 782, 783, 784, 80, 785, 786, 788, 789, 85, 790, 791, 792, 793, 796, 798] (by decide +kernel) (by decide +kernel)
set_option maxRecDepth 20000 in
theorem lt_wsL_holds_11 : GoodIn lw_tbl2 wsL_holds_r12 := goodIn_r _ [800, 801, 802, 803, 932, 804, 805, 806, 807, 808, 933, 809, 1601, 3, 811, 812, 813, 1602, 4, 815, 816, 817, 818, 1603] (by decide +kernel) (by decide +kernel)
set_option maxRecDepth 20000 in
theorem lt_wsL_holds_12 : GoodIn lw_tbl2 wsL_holds_r13 := goodIn_r _ [5, 820, 821, 822, 823, 86, 824, 825, 826, 827, 828, 829, 830, 831, 832, 833, 834, 835, 836, 837, 838, 839, 840, 841] (by decide +kernel) (by decide +kernel)
set_option maxRecDepth 20000 in
theorem lt_wsL_holds_13 : GoodIn lw_tbl2 wsL_holds_r14 := goodIn_r _ [842, 843, 844, 845, 846, 847, 1604, 848, 849, 850, 851, 88, 852, 853, 854, 855, 856, 858, 860, 861, 862, 863, 864, 865] (by decide +kernel) (by decide +kernel)
set_option maxRecDepth 20000 in
theorem lt_wsL_holds_14 : GoodIn lw_tbl2 wsL_holds_r15 := goodIn_r _ [866, 867, 868, 869, 870, 871, 872, 1605, 873, 874, 875, 876, 877, 878, 879, 880, 881, 882, 883, 884, 885, 886, 887, 888] (by decide +kernel) (by decide +kernel)
set_option maxRecDepth 20000 in
theorem lt_wsL_holds_15 : GoodIn lw_tbl2 wsL_holds_r16 := goodIn_r _ [889, 890, 891, 892, 893, 894, 895, 896, 897, 898, 899, 900, 901, 902, 705, 903, 905, 906, 904, 907, 908, 721, 1606, 909] (by decide +kernel) (by decide +kernel)
set_option maxRecDepth 20000 in
theorem lt_wsL_holds_16 : GoodIn lw_tbl2 wsL_holds_r17 := goodIn_r _ [910, 911, 912, 913, 914, 915, 916, 917, 918, 919, 920, 921, 922, 923, 924, 925, 926, 927, 928, 929, 930, 931, 943, 945] (by decide +kernel) (by decide +kernel)
