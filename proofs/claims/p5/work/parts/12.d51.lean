section CkChk51
noncomputable def gH712 : sHt := ([], [], [(0, [[591]]), (21, [[592, 593], [594, 595], [596, 597]])], [], [], [])
theorem gK712 : cChk 712 gCT gRU gC712 0 gH712 3000 = true := by decide +kernel
noncomputable def gH713 : sHt := ([], [], [(0, [[598]]), (21, [[592, 593], [594, 595], [596, 597]])], [], [], [])
theorem gK713 : cChk 713 gCT gRU gC713 0 gH713 3000 = true := by decide +kernel
noncomputable def gH714 : sHt := ([], [], [(0, [[599]]), (21, [[592, 593], [594, 595], [596, 597]])], [], [], [])
theorem gK714 : cChk 714 gCT gRU gC714 0 gH714 3000 = true := by decide +kernel
noncomputable def gH715 : sHt := ([], [], [(0, [[600]]), (21, [[592, 593], [594, 595], [596, 597]])], [], [], [])
theorem gK715 : cChk 715 gCT gRU gC715 0 gH715 3000 = true := by decide +kernel
noncomputable def gH716 : sHt := ([], [], [(0, [[601]]), (21, [[592, 593], [594, 595], [596, 597]])], [], [], [])
theorem gK716 : cChk 716 gCT gRU gC716 0 gH716 3000 = true := by decide +kernel
noncomputable def gH717 : sHt := ([], [], [(0, [[602]]), (21, [[592, 593], [594, 595], [596, 597]])], [], [], [])
theorem gK717 : cChk 717 gCT gRU gC717 0 gH717 3000 = true := by decide +kernel
noncomputable def gH718 : sHt := ([], [], [(0, [[603]]), (21, [[592, 593], [594, 595], [596, 597]])], [], [], [])
theorem gK718 : cChk 718 gCT gRU gC718 0 gH718 3000 = true := by decide +kernel
noncomputable def gH719 : sHt := ([], [], [(0, [[604]]), (21, [[592, 593], [594, 595], [596, 597]])], [], [], [])
theorem gK719 : cChk 719 gCT gRU gC719 0 gH719 3000 = true := by decide +kernel
noncomputable def gH720 : sHt := ([], [], [], [], [], [])
theorem gK720 : cChk 720 gCT gRU gC720 0 gH720 3000 = true := by decide +kernel
noncomputable def gH721 : sHt := ([], [], [(0, [[590]]), (396, [[605]])], [], [(4, [712]), (82, [713]), (142, [714]), (157, [715]), (172, [716]), (248, [717]), (378, [718]), (390, [719]), (398, [720])], [])
theorem gK721 : cChk 721 gCT gRU gC721 1 gH721 3000 = true := by decide +kernel
noncomputable def gH722 : sHt := ([], [], [(0, [[591]]), (17, [[608], [609], [610]]), (21, [[592, 593], [594, 595], [596, 597]])], [], [], [])
theorem gK722 : cChk 722 gCT gRU gC722 0 gH722 3000 = true := by decide +kernel
noncomputable def gH723 : sHt := ([], [], [(0, [[598]]), (17, [[608], [609], [610]]), (21, [[592, 593], [594, 595], [596, 597]])], [], [], [])
theorem gK723 : cChk 723 gCT gRU gC723 0 gH723 3000 = true := by decide +kernel
noncomputable def gH724 : sHt := ([], [], [(0, [[599]]), (17, [[608], [609], [610]]), (21, [[592, 593], [594, 595], [596, 597]])], [], [], [])
theorem gK724 : cChk 724 gCT gRU gC724 0 gH724 3000 = true := by decide +kernel
noncomputable def gH725 : sHt := ([], [], [(0, [[600]]), (17, [[608], [609], [610]]), (21, [[592, 593], [594, 595], [596, 597]])], [], [], [])
theorem gK725 : cChk 725 gCT gRU gC725 0 gH725 3000 = true := by decide +kernel
noncomputable def gH726 : sHt := ([], [], [(0, [[601]]), (17, [[608], [609], [610]]), (21, [[592, 593], [594, 595], [596, 597]])], [], [], [])
theorem gK726 : cChk 726 gCT gRU gC726 0 gH726 3000 = true := by decide +kernel
noncomputable def gH727 : sHt := ([], [], [(0, [[602]]), (17, [[608], [609], [610]]), (21, [[592, 593], [594, 595], [596, 597]])], [], [], [])
theorem gK727 : cChk 727 gCT gRU gC727 0 gH727 3000 = true := by decide +kernel
noncomputable def gH728 : sHt := ([], [], [(0, [[603]]), (17, [[608], [609], [610]]), (21, [[592, 593], [594, 595], [596, 597]])], [], [], [])
theorem gK728 : cChk 728 gCT gRU gC728 0 gH728 3000 = true := by decide +kernel
noncomputable def gH729 : sHt := ([], [], [(0, [[604]]), (17, [[608], [609], [610]]), (21, [[592, 593], [594, 595], [596, 597]])], [], [], [])
theorem gK729 : cChk 729 gCT gRU gC729 0 gH729 3000 = true := by decide +kernel
noncomputable def gH730 : sHt := ([], [], [(0, [[618]]), (21, [[592, 593], [594, 595], [596, 597]])], [], [], [])
theorem gK730 : cChk 730 gCT gRU gC730 0 gH730 3000 = true := by decide +kernel
noncomputable def gH731 : sHt := ([], [], [(0, [[619]]), (21, [[592, 593], [594, 595], [596, 597]])], [], [], [])
theorem gK731 : cChk 731 gCT gRU gC731 0 gH731 3000 = true := by decide +kernel
noncomputable def gH732 : sHt := ([], [], [(0, [[620]]), (21, [[592, 593], [594, 595], [596, 597]])], [], [], [])
theorem gK732 : cChk 732 gCT gRU gC732 0 gH732 3000 = true := by decide +kernel
noncomputable def gH733 : sHt := ([], [], [(0, [[621]]), (21, [[592, 593], [594, 595], [596, 597]])], [], [], [])
theorem gK733 : cChk 733 gCT gRU gC733 0 gH733 3000 = true := by decide +kernel
noncomputable def gH734 : sHt := ([], [], [(0, [[622]]), (21, [[592, 593], [594, 595], [596, 597]])], [], [], [])
theorem gK734 : cChk 734 gCT gRU gC734 0 gH734 3000 = true := by decide +kernel
noncomputable def gH735 : sHt := ([], [], [], [], [(4, [730]), (18, [731]), (32, [732]), (46, [733]), (60, [734])], [])
theorem gK735 : cChk 735 gCT gRU gC735 0 gH735 3000 = true := by decide +kernel
noncomputable def gH736 : sHt := ([], [], [(15, [[623, 624], [625, 626, 627, 628]])], [], [(2, [735]), (17, [720])], [])
theorem gK736 : cChk 736 gCT gRU gC736 0 gH736 3000 = true := by decide +kernel
noncomputable def gH737 : sHt := ([], [], [(0, [[618]]), (17, [[608], [609], [610]]), (21, [[592, 593], [594, 595], [596, 597]])], [], [], [])
theorem gK737 : cChk 737 gCT gRU gC737 0 gH737 3000 = true := by decide +kernel
noncomputable def gH738 : sHt := ([], [], [(0, [[619]]), (17, [[608], [609], [610]]), (21, [[592, 593], [594, 595], [596, 597]])], [], [], [])
theorem gK738 : cChk 738 gCT gRU gC738 0 gH738 3000 = true := by decide +kernel
noncomputable def gH739 : sHt := ([], [], [(0, [[620]]), (17, [[608], [609], [610]]), (21, [[592, 593], [594, 595], [596, 597]])], [], [], [])
theorem gK739 : cChk 739 gCT gRU gC739 0 gH739 3000 = true := by decide +kernel
noncomputable def gH740 : sHt := ([], [], [(0, [[621]]), (17, [[608], [609], [610]]), (21, [[592, 593], [594, 595], [596, 597]])], [], [], [])
theorem gK740 : cChk 740 gCT gRU gC740 0 gH740 3000 = true := by decide +kernel
noncomputable def gH741 : sHt := ([], [], [(0, [[622]]), (17, [[608], [609], [610]]), (21, [[592, 593], [594, 595], [596, 597]])], [], [], [])
theorem gK741 : cChk 741 gCT gRU gC741 0 gH741 3000 = true := by decide +kernel
noncomputable def gH742 : sHt := ([], [], [], [], [(4, [737]), (18, [738]), (32, [739]), (46, [740]), (60, [741])], [])
theorem gK742 : cChk 742 gCT gRU gC742 0 gH742 3000 = true := by decide +kernel
noncomputable def gH743 : sHt := ([], [], [(15, [[623, 624, 629, 630], [625, 626, 627, 628]]), (21, [[631, 632, 633, 634, 635], [636]])], [], [(2, [742]), (17, [720]), (22, [711])], [])
theorem gK743 : cChk 743 gCT gRU gC743 0 gH743 3000 = true := by decide +kernel
noncomputable def gH744 : sHt := ([], [], [(8, [[638, 639], [640, 641]])], [], [(10, [720])], [])
theorem gK744 : cChk 744 gCT gRU gC744 0 gH744 3000 = true := by decide +kernel
noncomputable def gH745 : sHt := ([], [], [(8, [[638], [640, 641]])], [], [(10, [720])], [])
theorem gK745 : cChk 745 gCT gRU gC745 0 gH745 3000 = true := by decide +kernel
noncomputable def gH746 : sHt := ([], [], [(8, [[638, 639], [640, 641]])], [], [(10, [720])], [])
theorem gK746 : cChk 746 gCT gRU gC746 0 gH746 3000 = true := by decide +kernel
noncomputable def gH747 : sHt := ([], [], [(8, [[638], [640, 641]])], [], [(10, [720])], [])
theorem gK747 : cChk 747 gCT gRU gC747 0 gH747 3000 = true := by decide +kernel
noncomputable def gH748 : sHt := ([], [], [], [], [], [])
theorem gK748 : cChk 748 gCT gRU gC748 0 gH748 3000 = true := by decide +kernel
noncomputable def gH749 : sHt := ([], [], [(34, [[642, 645], [643, 644]]), (42, [[646]])], [], [(28, [748]), (36, [720])], [])
theorem gK749 : cChk 749 gCT gRU gC749 0 gH749 3000 = true := by decide +kernel
noncomputable def gH750 : sHt := ([], [], [(0, [[618]]), (21, [[592, 593], [594, 595], [596, 597]])], [], [], [])
theorem gK750 : cChk 750 gCT gRU gC750 0 gH750 3000 = true := by decide +kernel
noncomputable def gH751 : sHt := ([], [], [(0, [[619]]), (21, [[592, 593], [594, 595], [596, 597]])], [], [], [])
theorem gK751 : cChk 751 gCT gRU gC751 0 gH751 3000 = true := by decide +kernel
noncomputable def gH752 : sHt := ([], [], [(0, [[620]]), (21, [[592, 593], [594, 595], [596, 597]])], [], [], [])
theorem gK752 : cChk 752 gCT gRU gC752 0 gH752 3000 = true := by decide +kernel
noncomputable def gH753 : sHt := ([], [], [(0, [[621]]), (21, [[592, 593], [594, 595], [596, 597]])], [], [], [])
theorem gK753 : cChk 753 gCT gRU gC753 0 gH753 3000 = true := by decide +kernel
noncomputable def gH754 : sHt := ([], [], [(0, [[622]]), (21, [[592, 593], [594, 595], [596, 597]])], [], [], [])
theorem gK754 : cChk 754 gCT gRU gC754 0 gH754 3000 = true := by decide +kernel
noncomputable def gH755 : sHt := ([], [], [], [], [(4, [750]), (18, [751]), (32, [752]), (46, [753]), (60, [754])], [])
theorem gK755 : cChk 755 gCT gRU gC755 0 gH755 3000 = true := by decide +kernel
noncomputable def gH756 : sHt := ([], [], [(15, [[623, 624], [625, 626, 627, 628]])], [], [(2, [755]), (17, [720])], [])
theorem gK756 : cChk 756 gCT gRU gC756 0 gH756 3000 = true := by decide +kernel
noncomputable def gH757 : sHt := ([], [], [(0, [[618]]), (21, [[592, 593], [594, 595], [596, 597]])], [], [], [])
theorem gK757 : cChk 757 gCT gRU gC757 0 gH757 3000 = true := by decide +kernel
noncomputable def gH758 : sHt := ([], [], [(0, [[619]]), (21, [[592, 593], [594, 595], [596, 597]])], [], [], [])
theorem gK758 : cChk 758 gCT gRU gC758 0 gH758 3000 = true := by decide +kernel
noncomputable def gH759 : sHt := ([], [], [(0, [[620]]), (21, [[592, 593], [594, 595], [596, 597]])], [], [], [])
theorem gK759 : cChk 759 gCT gRU gC759 0 gH759 3000 = true := by decide +kernel
noncomputable def gH760 : sHt := ([], [], [(0, [[621]]), (21, [[592, 593], [594, 595], [596, 597]])], [], [], [])
theorem gK760 : cChk 760 gCT gRU gC760 0 gH760 3000 = true := by decide +kernel
noncomputable def gH761 : sHt := ([], [], [(0, [[622]]), (21, [[592, 593], [594, 595], [596, 597]])], [], [], [])
theorem gK761 : cChk 761 gCT gRU gC761 0 gH761 3000 = true := by decide +kernel
noncomputable def gH762 : sHt := ([], [], [], [], [(4, [757]), (18, [758]), (32, [759]), (46, [760]), (60, [761])], [])
theorem gK762 : cChk 762 gCT gRU gC762 0 gH762 3000 = true := by decide +kernel
noncomputable def gH763 : sHt := ([], [], [(15, [[623], [625, 626, 627, 628]])], [], [(2, [762]), (17, [720])], [])
theorem gK763 : cChk 763 gCT gRU gC763 0 gH763 3000 = true := by decide +kernel
noncomputable def gH764 : sHt := ([], [], [(0, [[618]]), (21, [[592, 593], [594, 595], [596, 597]])], [], [], [])
theorem gK764 : cChk 764 gCT gRU gC764 0 gH764 3000 = true := by decide +kernel
noncomputable def gH765 : sHt := ([], [], [(0, [[619]]), (21, [[592, 593], [594, 595], [596, 597]])], [], [], [])
theorem gK765 : cChk 765 gCT gRU gC765 0 gH765 3000 = true := by decide +kernel
noncomputable def gH766 : sHt := ([], [], [(0, [[620]]), (21, [[592, 593], [594, 595], [596, 597]])], [], [], [])
theorem gK766 : cChk 766 gCT gRU gC766 0 gH766 3000 = true := by decide +kernel
noncomputable def gH767 : sHt := ([], [], [(0, [[621]]), (21, [[592, 593], [594, 595], [596, 597]])], [], [], [])
theorem gK767 : cChk 767 gCT gRU gC767 0 gH767 3000 = true := by decide +kernel
noncomputable def gH768 : sHt := ([], [], [(0, [[622]]), (21, [[592, 593], [594, 595], [596, 597]])], [], [], [])
theorem gK768 : cChk 768 gCT gRU gC768 0 gH768 3000 = true := by decide +kernel
noncomputable def gH769 : sHt := ([], [], [], [], [(4, [764]), (18, [765]), (32, [766]), (46, [767]), (60, [768])], [])
theorem gK769 : cChk 769 gCT gRU gC769 0 gH769 3000 = true := by decide +kernel
noncomputable def gH770 : sHt := ([], [], [(15, [[623, 624], [625, 626, 627, 628]])], [], [(2, [769]), (17, [720])], [])
theorem gK770 : cChk 770 gCT gRU gC770 0 gH770 3000 = true := by decide +kernel
noncomputable def gH771 : sHt := ([], [], [(34, [[642, 645], [643, 644]]), (42, [[646]])], [], [(28, [748]), (36, [720])], [])
theorem gK771 : cChk 771 gCT gRU gC771 0 gH771 3000 = true := by decide +kernel
noncomputable def gH772 : sHt := ([], [], [(11, [[659, 660, 661, 662, 663, 664, 665, 666, 667, 668], [669, 670, 671, 672]])], [], [(3, [771]), (12, [711])], [])
theorem gK772 : cChk 772 gCT gRU gC772 0 gH772 3000 = true := by decide +kernel
noncomputable def gH773 : sHt := ([], [], [(8, [[638], [640, 641]])], [], [(10, [720])], [])
theorem gK773 : cChk 773 gCT gRU gC773 0 gH773 3000 = true := by decide +kernel
noncomputable def gH774 : sHt := ([], [], [], [], [(3, [773])], [])
theorem gK774 : cChk 774 gCT gRU gC774 0 gH774 3000 = true := by decide +kernel
noncomputable def gH775 : sHt := ([], [], [(8, [[638, 639], [640, 641]])], [], [(10, [720])], [])
theorem gK775 : cChk 775 gCT gRU gC775 0 gH775 3000 = true := by decide +kernel
noncomputable def gH776 : sHt := ([], [], [], [], [(3, [775])], [])
theorem gK776 : cChk 776 gCT gRU gC776 0 gH776 3000 = true := by decide +kernel
noncomputable def gH777 : sHt := ([], [], [(8, [[638], [640, 641]])], [], [(10, [720])], [])
theorem gK777 : cChk 777 gCT gRU gC777 0 gH777 3000 = true := by decide +kernel
noncomputable def gH778 : sHt := ([], [], [], [], [(3, [777])], [])
theorem gK778 : cChk 778 gCT gRU gC778 0 gH778 3000 = true := by decide +kernel
noncomputable def gH779 : sHt := ([], [], [(8, [[638, 639], [640, 641]])], [], [(10, [720])], [])
theorem gK779 : cChk 779 gCT gRU gC779 0 gH779 3000 = true := by decide +kernel
noncomputable def gH780 : sHt := ([], [], [], [], [(3, [779])], [])
theorem gK780 : cChk 780 gCT gRU gC780 0 gH780 3000 = true := by decide +kernel
noncomputable def gH781 : sHt := ([(44, ((31, [(0, .ofNat 0, .ofNat 939), (1, .ofNat 1, .ofNat 10), (2, .ofNat 1, .ofNat 10), (3, .ofNat 0, .ofNat 7), (4, .ofNat 0, .ofNat 940), (5, .ofNat 0, .ofNat 4), (6, .ofNat 0, .ofNat 3), (7, .ofNat 0, .ofNat 5), (8, .ofNat 0, .ofNat 14), (9, .ofNat 0, .ofNat 10), (10, .ofNat 0, .ofNat 8), (11, .ofNat 0, .ofNat 1), (12, .ofNat 0, .ofNat 940), (13, .ofNat 0, .ofNat 0), (14, .ofNat 0, .ofNat 900), (15, .negSucc 0, .ofNat 99), (16, .negSucc 0, .ofNat 99), (17, .negSucc 0, .ofNat 99), (18, .negSucc 0, .ofNat 99), (19, .ofNat 0, .ofNat 940), (20, .ofNat 0, .ofNat 940), (21, .ofNat 7, .ofNat 7), (22, .ofNat 0, .ofNat 1), (23, .ofNat 0, .ofNat 7), (24, .ofNat 1, .ofNat 4), (25, .ofNat 0, .ofNat 4), (26, .ofNat 0, .ofNat 940), (27, .ofNat 0, .ofNat 939), (28, .ofNat 1, .ofNat 940), (29, .ofNat 1, .ofNat 940), (30, .ofNat 0, .ofNat 939)], [(.ofNat 1, [(.ofNat 1, 0), (.negSucc 0, 29)]), (.ofNat 0, [(.ofNat 1, 0), (.negSucc 0, 30)]), (.ofNat 0, [(.negSucc 0, 26), (.ofNat 1, 30)]), (.ofNat 0, [(.negSucc 0, 26), (.ofNat 1, 27)])], []), [(94, .ofNat 273, []), (1, .ofNat 0, [(.ofNat 1, 3)]), (1, .ofNat 0, [(.ofNat 1, 23)])], ([((78, .ofNat 273, []), (.ofNat 15, []), 1, .ofNat 0, []), ((78, .ofNat 273, []), (.ofNat 18, []), 1, .ofNat 0, [(.ofNat 1, 24)]), ((78, .ofNat 273, []), (.ofNat 21, []), 1, .ofNat 0, [(.ofNat 1, 25)]), ((78, .ofNat 273, []), (.ofNat 11, []), 1, .ofNat 2, []), ((78, .ofNat 273, []), (.ofNat 4, []), 1, .ofNat 0, [(.ofNat 1, 26)]), ((78, .ofNat 273, []), (.ofNat 12, []), 1, .ofNat 0, [(.ofNat 1, 27)]), ((78, .ofNat 273, []), (.ofNat 14, []), 1, .ofNat 0, [(.ofNat 1, 24)]), ((78, .ofNat 273, []), (.ofNat 5, []), 1, .ofNat 0, [(.ofNat 1, 28)]), ((78, .ofNat 273, []), (.ofNat 3, []), 1, .ofNat 0, [(.ofNat 1, 29)]), ((78, .ofNat 273, []), (.ofNat 26, []), 1, .ofNat 0, [(.ofNat 1, 11)]), ((78, .ofNat 273, []), (.ofNat 20, []), 1, .ofNat 0, [(.ofNat 1, 10)]), ((81, .ofNat 276, []), (.ofNat 400, []), 1, .ofNat 0, [(.ofNat 1, 9)]), ((81, .ofNat 276, []), (.ofNat 5, []), 1, .ofNat 0, [(.ofNat 1, 8)]), ((81, .ofNat 276, []), (.ofNat 4, []), 1, .ofNat 0, [(.ofNat 1, 7)]), ((81, .ofNat 276, []), (.ofNat 3, []), 1, .ofNat 0, [(.ofNat 1, 6)]), ((81, .ofNat 276, []), (.ofNat 2, []), 1, .ofNat 0, [(.ofNat 1, 5)]), ((81, .ofNat 276, []), (.ofNat 6, []), 1, .ofNat 0, [(.ofNat 1, 3)]), ((81, .ofNat 276, []), (.ofNat 1, []), 1, .ofNat 0, [(.ofNat 1, 2)]), ((81, .ofNat 276, []), (.ofNat 0, []), 1, .ofNat 0, [(.ofNat 1, 1)]), ((78, .ofNat 273, []), (.ofNat 7, []), 97, .ofNat 276, [])], [(132, []), (125, [(.ofNat 0, [(.ofNat 1, 14)]), (.ofNat 0, [(.ofNat 1, 5)]), (.ofNat 0, [(.ofNat 1, 6)]), (.ofNat 0, [(.ofNat 1, 7)]), (.ofNat 0, [(.ofNat 1, 3)]), (.ofNat 0, [(.ofNat 1, 8)]), (.ofNat 0, [(.ofNat 1, 9)]), (.ofNat 0, [(.ofNat 1, 10)]), (.ofNat 0, [(.ofNat 1, 22)]), (.ofNat 0, [(.ofNat 1, 1)]), (.ofNat 0, [(.ofNat 1, 2)])]), (130, [(.ofNat 0, [(.ofNat 1, 14)]), (.ofNat 0, [(.ofNat 1, 11)])]), (143, [(.ofNat 0, [(.ofNat 1, 5)]), (.ofNat 0, [(.ofNat 1, 14)])]), (145, [(.ofNat 0, [(.ofNat 1, 6)]), (.ofNat 0, [(.ofNat 1, 14)])]), (147, [(.ofNat 0, [(.ofNat 1, 7)]), (.ofNat 0, [(.ofNat 1, 14)])]), (154, [(.ofNat 0, [(.ofNat 1, 14)])]), (159, [(.ofNat 0, [(.ofNat 1, 8)]), (.ofNat 0, [(.ofNat 1, 14)])]), (162, [(.ofNat 0, [(.ofNat 1, 14)])]), (166, [(.ofNat 0, [(.ofNat 1, 3)]), (.ofNat 0, [(.ofNat 1, 14)])]), (6, [(.ofNat 0, [(.ofNat 1, 3)])]), (118, [(.ofNat 0, [(.ofNat 1, 0)]), (.ofNat 23, []), (.ofNat 0, [(.ofNat 1, 14)]), (.ofNat 0, []), (.ofNat 0, []), (.ofNat 0, []), (.ofNat 0, []), (.ofNat 0, []), (.ofNat 0, [])]), (122, [(.ofNat 0, [(.ofNat 1, 0)])]), (119, [(.ofNat 0, [(.ofNat 1, 30)]), (.ofNat 24, []), (.ofNat 0, [(.ofNat 1, 14)]), (.ofNat 0, [(.ofNat 1, 25)]), (.ofNat 0, []), (.ofNat 0, []), (.ofNat 0, []), (.ofNat 0, []), (.ofNat 0, []), (.ofNat 2, []), (.ofNat 0, [(.ofNat 1, 27)]), (.ofNat 0, [(.ofNat 1, 26)]), (.ofNat 0, [(.ofNat 1, 24)])]), (121, [(.ofNat 0, [(.ofNat 1, 30)]), (.ofNat 1, []), (.ofNat 4, [])]), (150, [(.ofNat 0, [(.ofNat 1, 30)])]), (167, [(.ofNat 0, [(.ofNat 1, 23)]), (.ofNat 0, [(.ofNat 1, 14)]), (.ofNat 0, [(.ofNat 1, 25)]), (.ofNat 0, [(.ofNat 1, 24)])])])), (.ofNat 7, [(.negSucc 0, 23)]))], [(44, false)], [(14, [[615]]), (20, [[616]]), (24, [[617]]), (31, [[637]]), (42, [[647]]), (49, [[648], [649]]), (83, [[654]]), (89, [[650, 651, 652, 653]]), (95, [[655]]), (123, [[656], [657]]), (127, [[658]]), (153, [[673], [674]])], [], [(16, [720]), (21, [711]), (25, [736, 743, 756, 763, 770]), (34, [744, 745, 746, 747, 749]), (85, [720]), (124, [711]), (131, [772, 774, 776, 778, 780])], [])
theorem gK781 : cChk 781 gCT gRU gC781 2 gH781 3000 = true := by decide +kernel
end CkChk51
