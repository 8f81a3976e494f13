section CkChk53
noncomputable def gH835 : sHt := ([(2, ((18, [(0, .ofNat 0, .ofNat 3), (1, .ofNat 0, .ofNat 940), (2, .ofNat 0, .ofNat 940), (3, .ofNat 0, .ofNat 4), (4, .ofNat 0, .ofNat 3), (5, .ofNat 0, .ofNat 5), (6, .ofNat 0, .ofNat 940), (7, .ofNat 0, .ofNat 26), (8, .ofNat 0, .ofNat 1000), (9, .negSucc 0, .ofNat 99), (10, .negSucc 0, .ofNat 99), (11, .negSucc 0, .ofNat 99), (12, .negSucc 0, .ofNat 99), (13, .ofNat 0, .ofNat 940), (14, .ofNat 0, .ofNat 940), (15, .negSucc 0, .ofNat 99), (16, .ofNat 0, .ofNat 3)], [(.ofNat 0, [(.ofNat 1, 0), (.negSucc 0, 4)]), (.ofNat 0, [(.negSucc 0, 0), (.ofNat 1, 4)])], []), [(94, .ofNat 273, []), (1, .ofNat 16, []), (1, .ofNat 0, [(.ofNat 1, 0)]), (1, .ofNat 0, [(.ofNat 1, 16)])], ([((78, .ofNat 273, []), (.ofNat 17, []), 5, .ofNat 0, [(.ofNat 1, 17)]), ((81, .ofNat 276, []), (.ofNat 4, []), 1, .ofNat 0, [(.ofNat 1, 5)]), ((81, .ofNat 276, []), (.ofNat 3, []), 1, .ofNat 0, [(.ofNat 1, 4)]), ((81, .ofNat 276, []), (.ofNat 2, []), 1, .ofNat 0, [(.ofNat 1, 3)]), ((78, .ofNat 273, []), (.ofNat 7, []), 97, .ofNat 276, []), ((78, .ofNat 273, []), (.ofNat 4, []), 1, .ofNat 0, [(.ofNat 1, 2)]), ((78, .ofNat 273, []), (.ofNat 12, []), 1, .ofNat 0, [(.ofNat 1, 1)]), ((78, .ofNat 273, []), (.ofNat 11, []), 1, .ofNat 1, [])], [(119, [(.ofNat 0, [(.ofNat 1, 6)]), (.ofNat 0, [(.ofNat 1, 7)]), (.ofNat 0, [(.ofNat 1, 8)]), (.ofNat 0, [(.ofNat 1, 9)]), (.ofNat 0, [(.ofNat 1, 10)]), (.ofNat 0, [(.ofNat 1, 11)]), (.ofNat 0, [(.ofNat 1, 12)]), (.ofNat 0, [(.ofNat 1, 13)]), (.ofNat 0, [(.ofNat 1, 14)]), (.ofNat 1, []), (.ofNat 0, [(.ofNat 1, 1)]), (.ofNat 0, [(.ofNat 1, 2)]), (.ofNat 0, [(.ofNat 1, 15)])]), (131, [(.ofNat 0, [(.ofNat 1, 1)]), (.ofNat 0, [(.ofNat 1, 2)])]), (143, [(.ofNat 0, [(.ofNat 1, 3)]), (.ofNat 0, [(.ofNat 1, 8)])]), (145, [(.ofNat 0, [(.ofNat 1, 4)]), (.ofNat 0, [(.ofNat 1, 8)])]), (147, [(.ofNat 0, [(.ofNat 1, 5)]), (.ofNat 0, [(.ofNat 1, 8)])]), (146, [(.ofNat 0, [(.ofNat 1, 16)]), (.ofNat 0, [(.ofNat 1, 17)])])])), (.ofNat 3, [(.negSucc 0, 16)]))], [(2, false)], [(0, [[725, 726]]), (23, [[733, 734], [736]]), (25, [[728, 729, 730, 731]]), (31, [[738, 739], [741]])], [], [], [])
theorem gK835 : cChk 835 gCT gRU gC835 1 gH835 3000 = true := by decide +kernel
noncomputable def gH836 : sHt := ([], [], [(7, [[752, 753, 754]]), (25, [[755]]), (40, [[756]]), (55, [[757]]), (58, [[763, 764, 765]]), (64, [[758]]), (74, [[759], [760, 761, 762]])], [], [(1, [804]), (9, [720]), (22, [834]), (37, [835]), (52, [805]), (60, [720]), (75, [711])], [])
theorem gK836 : cChk 836 gCT gRU gC836 0 gH836 3000 = true := by decide +kernel
noncomputable def gH837 : sHt := ([], [], [(8, [[638, 639], [640, 641]])], [], [(10, [720])], [])
theorem gK837 : cChk 837 gCT gRU gC837 0 gH837 3000 = true := by decide +kernel
noncomputable def gH838 : sHt := ([], [], [], [], [(3, [837])], [])
theorem gK838 : cChk 838 gCT gRU gC838 0 gH838 3000 = true := by decide +kernel
noncomputable def gH839 : sHt := ([], [], [(8, [[638], [640, 641]])], [], [(10, [720])], [])
theorem gK839 : cChk 839 gCT gRU gC839 0 gH839 3000 = true := by decide +kernel
noncomputable def gH840 : sHt := ([], [], [], [], [(3, [839])], [])
theorem gK840 : cChk 840 gCT gRU gC840 0 gH840 3000 = true := by decide +kernel
noncomputable def gH841 : sHt := ([], [], [(8, [[638, 639], [640, 641]])], [], [(10, [720])], [])
theorem gK841 : cChk 841 gCT gRU gC841 0 gH841 3000 = true := by decide +kernel
noncomputable def gH842 : sHt := ([], [], [], [], [(3, [841])], [])
theorem gK842 : cChk 842 gCT gRU gC842 0 gH842 3000 = true := by decide +kernel
noncomputable def gH843 : sHt := ([], [], [(8, [[638], [640, 641]])], [], [(10, [720])], [])
theorem gK843 : cChk 843 gCT gRU gC843 0 gH843 3000 = true := by decide +kernel
noncomputable def gH844 : sHt := ([], [], [], [], [(3, [843])], [])
theorem gK844 : cChk 844 gCT gRU gC844 0 gH844 3000 = true := by decide +kernel
noncomputable def gH845 : sHt := ([], [], [(34, [[642, 645], [643, 644]]), (42, [[646]])], [], [(28, [748]), (36, [720])], [])
theorem gK845 : cChk 845 gCT gRU gC845 0 gH845 3000 = true := by decide +kernel
noncomputable def gH846 : sHt := ([], [], [(11, [[659, 660, 661, 662, 663, 664], [669, 670, 671, 672]])], [], [(3, [845]), (12, [711])], [])
theorem gK846 : cChk 846 gCT gRU gC846 0 gH846 3000 = true := by decide +kernel
noncomputable def gH847 : sHt := ([], [], [(8, [[638, 639], [640, 641]])], [], [(10, [720])], [])
theorem gK847 : cChk 847 gCT gRU gC847 0 gH847 3000 = true := by decide +kernel
noncomputable def gH848 : sHt := ([], [], [], [], [(3, [847])], [])
theorem gK848 : cChk 848 gCT gRU gC848 0 gH848 3000 = true := by decide +kernel
noncomputable def gH849 : sHt := ([], [], [(8, [[638], [640, 641]])], [], [(10, [720])], [])
theorem gK849 : cChk 849 gCT gRU gC849 0 gH849 3000 = true := by decide +kernel
noncomputable def gH850 : sHt := ([], [], [], [], [(3, [849])], [])
theorem gK850 : cChk 850 gCT gRU gC850 0 gH850 3000 = true := by decide +kernel
noncomputable def gH851 : sHt := ([], [], [(8, [[638, 639], [640, 641]])], [], [(10, [720])], [])
theorem gK851 : cChk 851 gCT gRU gC851 0 gH851 3000 = true := by decide +kernel
noncomputable def gH852 : sHt := ([], [], [], [], [(3, [851])], [])
theorem gK852 : cChk 852 gCT gRU gC852 0 gH852 3000 = true := by decide +kernel
noncomputable def gH853 : sHt := ([], [], [(8, [[638], [640, 641]])], [], [(10, [720])], [])
theorem gK853 : cChk 853 gCT gRU gC853 0 gH853 3000 = true := by decide +kernel
noncomputable def gH854 : sHt := ([], [], [], [], [(3, [853])], [])
theorem gK854 : cChk 854 gCT gRU gC854 0 gH854 3000 = true := by decide +kernel
noncomputable def gH855 : sHt := ([], [], [(34, [[642, 645], [643, 644]]), (42, [[646]])], [], [(28, [748]), (36, [720])], [])
theorem gK855 : cChk 855 gCT gRU gC855 0 gH855 3000 = true := by decide +kernel
noncomputable def gH856 : sHt := ([], [], [(11, [[659, 660, 661, 662, 663, 664, 665], [669, 670, 671, 672]])], [], [(3, [855]), (12, [711])], [])
theorem gK856 : cChk 856 gCT gRU gC856 0 gH856 3000 = true := by decide +kernel
noncomputable def gH857 : sHt := ([], [], [(0, [[769]]), (21, [[592, 593], [594, 595], [596, 597]])], [], [], [])
theorem gK857 : cChk 857 gCT gRU gC857 0 gH857 3000 = true := by decide +kernel
noncomputable def gH858 : sHt := ([], [], [(0, [[769]]), (21, [[592, 593], [594, 595], [596, 597]])], [], [], [])
theorem gK858 : cChk 858 gCT gRU gC858 0 gH858 3000 = true := by decide +kernel
noncomputable def gH859 : sHt := ([], [], [(0, [[769]]), (21, [[592, 593], [594, 595], [596, 597]])], [], [], [])
theorem gK859 : cChk 859 gCT gRU gC859 0 gH859 3000 = true := by decide +kernel
noncomputable def gH860 : sHt := ([], [], [(0, [[769]]), (17, [[608], [609], [610]]), (21, [[592, 593], [594, 595], [596, 597]])], [], [], [])
theorem gK860 : cChk 860 gCT gRU gC860 0 gH860 3000 = true := by decide +kernel
noncomputable def gH861 : sHt := ([], [], [(0, [[769]]), (21, [[592, 593], [594, 595], [596, 597]])], [], [], [])
theorem gK861 : cChk 861 gCT gRU gC861 0 gH861 3000 = true := by decide +kernel
noncomputable def gH862 : sHt := ([], [], [(7, [[752, 753]])], [], [(1, [827]), (9, [720])], [])
theorem gK862 : cChk 862 gCT gRU gC862 0 gH862 3000 = true := by decide +kernel
noncomputable def gH863 : sHt := ([], [], [(7, [[752]])], [], [(1, [829]), (9, [720])], [])
theorem gK863 : cChk 863 gCT gRU gC863 0 gH863 3000 = true := by decide +kernel
noncomputable def gH864 : sHt := ([], [], [(7, [[752, 753]])], [], [(1, [831]), (9, [720])], [])
theorem gK864 : cChk 864 gCT gRU gC864 0 gH864 3000 = true := by decide +kernel
noncomputable def gH865 : sHt := ([], [], [(12, [[749]]), (18, [[750]]), (22, [[751]]), (33, [[766]]), (59, [[767]]), (85, [[768]]), (120, [[777]]), (124, [[770, 771, 772, 773, 775, 776], [774]])], [], [(14, [720]), (19, [711]), (27, [833, 836, 862, 863, 864]), (37, [838, 840, 842, 844, 846]), (63, [848, 850, 852, 854, 856]), (98, [857, 858, 859, 860, 861]), (114, [857, 858, 859, 860, 861]), (121, [711])], [])
theorem gK865 : cChk 865 gCT gRU gC865 1 gH865 3000 = true := by decide +kernel
noncomputable def gH866 : sHt := ([], [], [(7, [[752, 753]])], [], [(1, [802]), (9, [720])], [])
theorem gK866 : cChk 866 gCT gRU gC866 0 gH866 3000 = true := by decide +kernel
noncomputable def gH867 : sHt := ([], [], [(7, [[752, 753, 754]]), (25, [[755]]), (40, [[756]]), (55, [[757]]), (58, [[763, 764, 765]]), (64, [[758]]), (74, [[759], [760, 761]])], [], [(1, [804]), (9, [720]), (22, [834]), (37, [835]), (52, [805]), (60, [720]), (75, [711])], [])
theorem gK867 : cChk 867 gCT gRU gC867 0 gH867 3000 = true := by decide +kernel
noncomputable def gH868 : sHt := ([], [], [(8, [[638, 639], [640, 641]])], [], [(10, [720])], [])
theorem gK868 : cChk 868 gCT gRU gC868 0 gH868 3000 = true := by decide +kernel
noncomputable def gH869 : sHt := ([], [], [], [], [(3, [868])], [])
theorem gK869 : cChk 869 gCT gRU gC869 0 gH869 3000 = true := by decide +kernel
noncomputable def gH870 : sHt := ([], [(115, false), (134, false), (207, false), (226, false)], [(0, [[781]])], [], [(10, [869])], [])
theorem gK870 : cChk 870 gCT gRU gC870 2 gH870 3000 = true := by decide +kernel
noncomputable def gH871 : sHt := ([], [], [(8, [[638], [640, 641]])], [], [(10, [720])], [])
theorem gK871 : cChk 871 gCT gRU gC871 0 gH871 3000 = true := by decide +kernel
noncomputable def gH872 : sHt := ([], [], [], [], [(3, [871])], [])
theorem gK872 : cChk 872 gCT gRU gC872 0 gH872 3000 = true := by decide +kernel
noncomputable def gH873 : sHt := ([], [(115, false), (134, false), (207, false), (226, false)], [(0, [[781]])], [], [(10, [872])], [])
theorem gK873 : cChk 873 gCT gRU gC873 2 gH873 3000 = true := by decide +kernel
noncomputable def gH874 : sHt := ([], [], [(8, [[638, 639], [640, 641]])], [], [(10, [720])], [])
theorem gK874 : cChk 874 gCT gRU gC874 0 gH874 3000 = true := by decide +kernel
noncomputable def gH875 : sHt := ([], [], [], [], [(3, [874])], [])
theorem gK875 : cChk 875 gCT gRU gC875 0 gH875 3000 = true := by decide +kernel
noncomputable def gH876 : sHt := ([], [(115, false), (134, false), (207, false), (226, false)], [(0, [[781]])], [], [(10, [875])], [])
theorem gK876 : cChk 876 gCT gRU gC876 2 gH876 3000 = true := by decide +kernel
noncomputable def gH877 : sHt := ([], [], [(8, [[638], [640, 641]])], [], [(10, [720])], [])
theorem gK877 : cChk 877 gCT gRU gC877 0 gH877 3000 = true := by decide +kernel
noncomputable def gH878 : sHt := ([], [], [], [], [(3, [877])], [])
theorem gK878 : cChk 878 gCT gRU gC878 0 gH878 3000 = true := by decide +kernel
noncomputable def gH879 : sHt := ([], [(115, false), (134, false), (207, false), (226, false)], [(0, [[781]])], [], [(10, [878])], [])
theorem gK879 : cChk 879 gCT gRU gC879 2 gH879 3000 = true := by decide +kernel
noncomputable def gH880 : sHt := ([], [], [(34, [[642, 645], [643, 644]]), (42, [[646]])], [], [(28, [748]), (36, [720])], [])
theorem gK880 : cChk 880 gCT gRU gC880 0 gH880 3000 = true := by decide +kernel
noncomputable def gH881 : sHt := ([], [], [(11, [[659, 660, 661], [669, 670, 671, 672]])], [], [(3, [880]), (12, [711])], [])
theorem gK881 : cChk 881 gCT gRU gC881 0 gH881 3000 = true := by decide +kernel
noncomputable def gH882 : sHt := ([], [], [(8, [[638, 639], [640, 641]])], [], [(10, [720])], [])
theorem gK882 : cChk 882 gCT gRU gC882 0 gH882 3000 = true := by decide +kernel
noncomputable def gH883 : sHt := ([], [], [], [], [(3, [882])], [])
theorem gK883 : cChk 883 gCT gRU gC883 0 gH883 3000 = true := by decide +kernel
noncomputable def gH884 : sHt := ([], [], [(8, [[638], [640, 641]])], [], [(10, [720])], [])
theorem gK884 : cChk 884 gCT gRU gC884 0 gH884 3000 = true := by decide +kernel
noncomputable def gH885 : sHt := ([], [], [], [], [(3, [884])], [])
theorem gK885 : cChk 885 gCT gRU gC885 0 gH885 3000 = true := by decide +kernel
noncomputable def gH886 : sHt := ([], [], [(8, [[638, 639], [640, 641]])], [], [(10, [720])], [])
theorem gK886 : cChk 886 gCT gRU gC886 0 gH886 3000 = true := by decide +kernel
noncomputable def gH887 : sHt := ([], [], [], [], [(3, [886])], [])
theorem gK887 : cChk 887 gCT gRU gC887 0 gH887 3000 = true := by decide +kernel
noncomputable def gH888 : sHt := ([], [], [(8, [[638], [640, 641]])], [], [(10, [720])], [])
theorem gK888 : cChk 888 gCT gRU gC888 0 gH888 3000 = true := by decide +kernel
noncomputable def gH889 : sHt := ([], [], [], [], [(3, [888])], [])
theorem gK889 : cChk 889 gCT gRU gC889 0 gH889 3000 = true := by decide +kernel
noncomputable def gH890 : sHt := ([], [], [(34, [[642, 645], [643, 644]]), (42, [[646]])], [], [(28, [748]), (36, [720])], [])
theorem gK890 : cChk 890 gCT gRU gC890 0 gH890 3000 = true := by decide +kernel
noncomputable def gH891 : sHt := ([], [], [(11, [[659, 660, 661, 662], [669, 670, 671, 672]])], [], [(3, [890]), (12, [711])], [])
theorem gK891 : cChk 891 gCT gRU gC891 0 gH891 3000 = true := by decide +kernel
noncomputable def gH892 : sHt := ([], [], [(8, [[638, 639], [640, 641]])], [], [(10, [720])], [])
theorem gK892 : cChk 892 gCT gRU gC892 0 gH892 3000 = true := by decide +kernel
noncomputable def gH893 : sHt := ([], [], [], [], [(3, [892])], [])
theorem gK893 : cChk 893 gCT gRU gC893 0 gH893 3000 = true := by decide +kernel
noncomputable def gH894 : sHt := ([], [], [(8, [[638], [640, 641]])], [], [(10, [720])], [])
theorem gK894 : cChk 894 gCT gRU gC894 0 gH894 3000 = true := by decide +kernel
noncomputable def gH895 : sHt := ([], [], [], [], [(3, [894])], [])
theorem gK895 : cChk 895 gCT gRU gC895 0 gH895 3000 = true := by decide +kernel
noncomputable def gH896 : sHt := ([], [], [(8, [[638, 639], [640, 641]])], [], [(10, [720])], [])
theorem gK896 : cChk 896 gCT gRU gC896 0 gH896 3000 = true := by decide +kernel
noncomputable def gH897 : sHt := ([], [], [], [], [(3, [896])], [])
theorem gK897 : cChk 897 gCT gRU gC897 0 gH897 3000 = true := by decide +kernel
noncomputable def gH898 : sHt := ([], [], [(8, [[638], [640, 641]])], [], [(10, [720])], [])
theorem gK898 : cChk 898 gCT gRU gC898 0 gH898 3000 = true := by decide +kernel
noncomputable def gH899 : sHt := ([], [], [], [], [(3, [898])], [])
theorem gK899 : cChk 899 gCT gRU gC899 0 gH899 3000 = true := by decide +kernel
end CkChk53
