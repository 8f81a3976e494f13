section CkChk46
noncomputable def gH717 : sHt := ([], [], [(0, [[350, 353, 354, 355, 356, 357, 358, 359, 371, 372, 373, 374, 375, 498]]), (17, [[363]]), (21, [[351, 352]])], [], [], [])
theorem gK717 : cChk 717 gCT gRU gC717 0 gH717 3000 = true := by decide +kernel
noncomputable def gH718 : sHt := ([], [], [(0, [[350, 353, 354, 355, 356, 357, 358, 359, 371]]), (21, [[351, 352]])], [], [], [])
theorem gK718 : cChk 718 gCT gRU gC718 0 gH718 3000 = true := by decide +kernel
noncomputable def gH719 : sHt := ([], [], [(0, [[350, 353, 354, 355, 356, 357, 358, 359, 371, 372]]), (21, [[351, 352]])], [], [], [])
theorem gK719 : cChk 719 gCT gRU gC719 0 gH719 3000 = true := by decide +kernel
noncomputable def gH720 : sHt := ([], [], [(0, [[350, 353, 354, 355, 356, 357, 358, 359, 371, 372, 373]]), (21, [[351, 352]])], [], [], [])
theorem gK720 : cChk 720 gCT gRU gC720 0 gH720 3000 = true := by decide +kernel
noncomputable def gH721 : sHt := ([], [], [(0, [[350, 353, 354, 355, 356, 357, 358, 359, 371, 372, 373, 374]]), (21, [[351, 352]])], [], [], [])
theorem gK721 : cChk 721 gCT gRU gC721 0 gH721 3000 = true := by decide +kernel
noncomputable def gH722 : sHt := ([], [], [(0, [[350, 353, 354, 355, 356, 357, 358, 359, 371, 372, 373, 374, 375]]), (21, [[351, 352]])], [], [], [])
theorem gK722 : cChk 722 gCT gRU gC722 0 gH722 3000 = true := by decide +kernel
noncomputable def gH723 : sHt := ([], [], [], [], [(4, [718]), (18, [719]), (32, [720]), (46, [721]), (60, [722])], [])
theorem gK723 : cChk 723 gCT gRU gC723 0 gH723 3000 = true := by decide +kernel
noncomputable def gH724 : sHt := ([], [], [(15, [[376, 377, 378, 379]])], [], [(2, [723]), (17, [386])], [])
theorem gK724 : cChk 724 gCT gRU gC724 0 gH724 3000 = true := by decide +kernel
noncomputable def gH725 : sHt := ([], [], [(0, [[350, 353, 354, 355, 356, 357, 358, 359, 371]]), (17, [[363]]), (21, [[351, 352]])], [], [], [])
theorem gK725 : cChk 725 gCT gRU gC725 0 gH725 3000 = true := by decide +kernel
noncomputable def gH726 : sHt := ([], [], [(0, [[350, 353, 354, 355, 356, 357, 358, 359, 371, 372]]), (17, [[363]]), (21, [[351, 352]])], [], [], [])
theorem gK726 : cChk 726 gCT gRU gC726 0 gH726 3000 = true := by decide +kernel
noncomputable def gH727 : sHt := ([], [], [(0, [[350, 353, 354, 355, 356, 357, 358, 359, 371, 372, 373]]), (17, [[363]]), (21, [[351, 352]])], [], [], [])
theorem gK727 : cChk 727 gCT gRU gC727 0 gH727 3000 = true := by decide +kernel
noncomputable def gH728 : sHt := ([], [], [(0, [[350, 353, 354, 355, 356, 357, 358, 359, 371, 372, 373, 374]]), (17, [[363]]), (21, [[351, 352]])], [], [], [])
theorem gK728 : cChk 728 gCT gRU gC728 0 gH728 3000 = true := by decide +kernel
noncomputable def gH729 : sHt := ([], [], [(0, [[350, 353, 354, 355, 356, 357, 358, 359, 371, 372, 373, 374, 375]]), (17, [[363]]), (21, [[351, 352]])], [], [], [])
theorem gK729 : cChk 729 gCT gRU gC729 0 gH729 3000 = true := by decide +kernel
noncomputable def gH730 : sHt := ([], [], [], [], [(4, [725]), (18, [726]), (32, [727]), (46, [728]), (60, [729])], [])
theorem gK730 : cChk 730 gCT gRU gC730 0 gH730 3000 = true := by decide +kernel
noncomputable def gH731 : sHt := ([], [], [(15, [[376, 377, 378, 379]]), (21, [[380, 381, 382, 383, 384]])], [], [(2, [730]), (17, [386]), (22, [716])], [])
theorem gK731 : cChk 731 gCT gRU gC731 0 gH731 3000 = true := by decide +kernel
noncomputable def gH732 : sHt := ([], [], [(8, [[386, 387]])], [], [(10, [386])], [])
theorem gK732 : cChk 732 gCT gRU gC732 0 gH732 3000 = true := by decide +kernel
noncomputable def gH733 : sHt := ([], [], [], [], [(3, [732])], [])
theorem gK733 : cChk 733 gCT gRU gC733 0 gH733 3000 = true := by decide +kernel
noncomputable def gH734 : sHt := ([], [], [(8, [[386, 387]])], [], [(10, [386])], [])
theorem gK734 : cChk 734 gCT gRU gC734 0 gH734 3000 = true := by decide +kernel
noncomputable def gH735 : sHt := ([], [], [], [], [(3, [734])], [])
theorem gK735 : cChk 735 gCT gRU gC735 0 gH735 3000 = true := by decide +kernel
noncomputable def gH736 : sHt := ([], [], [(8, [[386, 387]])], [], [(10, [386])], [])
theorem gK736 : cChk 736 gCT gRU gC736 0 gH736 3000 = true := by decide +kernel
noncomputable def gH737 : sHt := ([], [], [], [], [(3, [736])], [])
theorem gK737 : cChk 737 gCT gRU gC737 0 gH737 3000 = true := by decide +kernel
noncomputable def gH738 : sHt := ([], [], [(8, [[386, 387]])], [], [(10, [386])], [])
theorem gK738 : cChk 738 gCT gRU gC738 0 gH738 3000 = true := by decide +kernel
noncomputable def gH739 : sHt := ([], [], [], [], [(3, [738])], [])
theorem gK739 : cChk 739 gCT gRU gC739 0 gH739 3000 = true := by decide +kernel
noncomputable def gH740 : sHt := ([], [], [(34, [[388, 389]]), (42, [[390]])], [], [(28, [414]), (36, [386])], [])
theorem gK740 : cChk 740 gCT gRU gC740 0 gH740 3000 = true := by decide +kernel
noncomputable def gH741 : sHt := ([], [], [(11, [[403, 404, 405, 406, 407, 408, 409, 410, 411, 412]])], [], [(3, [740]), (12, [716])], [])
theorem gK741 : cChk 741 gCT gRU gC741 0 gH741 3000 = true := by decide +kernel
noncomputable def gH742 : sHt := ([], [], [(0, [[350, 353, 354, 355, 356, 357, 358, 359, 371]]), (21, [[351, 352]])], [], [], [])
theorem gK742 : cChk 742 gCT gRU gC742 0 gH742 3000 = true := by decide +kernel
noncomputable def gH743 : sHt := ([], [], [(0, [[350, 353, 354, 355, 356, 357, 358, 359, 371, 372]]), (21, [[351, 352]])], [], [], [])
theorem gK743 : cChk 743 gCT gRU gC743 0 gH743 3000 = true := by decide +kernel
noncomputable def gH744 : sHt := ([], [], [(0, [[350, 353, 354, 355, 356, 357, 358, 359, 371, 372, 373]]), (21, [[351, 352]])], [], [], [])
theorem gK744 : cChk 744 gCT gRU gC744 0 gH744 3000 = true := by decide +kernel
noncomputable def gH745 : sHt := ([], [], [(0, [[350, 353, 354, 355, 356, 357, 358, 359, 371, 372, 373, 374]]), (21, [[351, 352]])], [], [], [])
theorem gK745 : cChk 745 gCT gRU gC745 0 gH745 3000 = true := by decide +kernel
noncomputable def gH746 : sHt := ([], [], [(0, [[350, 353, 354, 355, 356, 357, 358, 359, 371, 372, 373, 374, 375]]), (21, [[351, 352]])], [], [], [])
theorem gK746 : cChk 746 gCT gRU gC746 0 gH746 3000 = true := by decide +kernel
noncomputable def gH747 : sHt := ([], [], [], [], [(4, [742]), (18, [743]), (32, [744]), (46, [745]), (60, [746])], [])
theorem gK747 : cChk 747 gCT gRU gC747 0 gH747 3000 = true := by decide +kernel
noncomputable def gH748 : sHt := ([], [], [(15, [[376, 377, 378, 379]])], [], [(2, [747]), (17, [386])], [])
theorem gK748 : cChk 748 gCT gRU gC748 0 gH748 3000 = true := by decide +kernel
noncomputable def gH749 : sHt := ([], [], [(0, [[350, 353, 354, 355, 356, 357, 358, 359, 371]]), (21, [[351, 352]])], [], [], [])
theorem gK749 : cChk 749 gCT gRU gC749 0 gH749 3000 = true := by decide +kernel
noncomputable def gH750 : sHt := ([], [], [(0, [[350, 353, 354, 355, 356, 357, 358, 359, 371, 372]]), (21, [[351, 352]])], [], [], [])
theorem gK750 : cChk 750 gCT gRU gC750 0 gH750 3000 = true := by decide +kernel
noncomputable def gH751 : sHt := ([], [], [(0, [[350, 353, 354, 355, 356, 357, 358, 359, 371, 372, 373]]), (21, [[351, 352]])], [], [], [])
theorem gK751 : cChk 751 gCT gRU gC751 0 gH751 3000 = true := by decide +kernel
noncomputable def gH752 : sHt := ([], [], [(0, [[350, 353, 354, 355, 356, 357, 358, 359, 371, 372, 373, 374]]), (21, [[351, 352]])], [], [], [])
theorem gK752 : cChk 752 gCT gRU gC752 0 gH752 3000 = true := by decide +kernel
noncomputable def gH753 : sHt := ([], [], [(0, [[350, 353, 354, 355, 356, 357, 358, 359, 371, 372, 373, 374, 375]]), (21, [[351, 352]])], [], [], [])
theorem gK753 : cChk 753 gCT gRU gC753 0 gH753 3000 = true := by decide +kernel
noncomputable def gH754 : sHt := ([], [], [], [], [(4, [749]), (18, [750]), (32, [751]), (46, [752]), (60, [753])], [])
theorem gK754 : cChk 754 gCT gRU gC754 0 gH754 3000 = true := by decide +kernel
noncomputable def gH755 : sHt := ([], [], [(15, [[376, 377, 378, 379]])], [], [(2, [754]), (17, [386])], [])
theorem gK755 : cChk 755 gCT gRU gC755 0 gH755 3000 = true := by decide +kernel
noncomputable def gH756 : sHt := ([], [], [(0, [[350, 353, 354, 355, 356, 357, 358, 359, 371]]), (21, [[351, 352]])], [], [], [])
theorem gK756 : cChk 756 gCT gRU gC756 0 gH756 3000 = true := by decide +kernel
noncomputable def gH757 : sHt := ([], [], [(0, [[350, 353, 354, 355, 356, 357, 358, 359, 371, 372]]), (21, [[351, 352]])], [], [], [])
theorem gK757 : cChk 757 gCT gRU gC757 0 gH757 3000 = true := by decide +kernel
noncomputable def gH758 : sHt := ([], [], [(0, [[350, 353, 354, 355, 356, 357, 358, 359, 371, 372, 373]]), (21, [[351, 352]])], [], [], [])
theorem gK758 : cChk 758 gCT gRU gC758 0 gH758 3000 = true := by decide +kernel
noncomputable def gH759 : sHt := ([], [], [(0, [[350, 353, 354, 355, 356, 357, 358, 359, 371, 372, 373, 374]]), (21, [[351, 352]])], [], [], [])
theorem gK759 : cChk 759 gCT gRU gC759 0 gH759 3000 = true := by decide +kernel
noncomputable def gH760 : sHt := ([], [], [(0, [[350, 353, 354, 355, 356, 357, 358, 359, 371, 372, 373, 374, 375]]), (21, [[351, 352]])], [], [], [])
theorem gK760 : cChk 760 gCT gRU gC760 0 gH760 3000 = true := by decide +kernel
noncomputable def gH761 : sHt := ([], [], [], [], [(4, [756]), (18, [757]), (32, [758]), (46, [759]), (60, [760])], [])
theorem gK761 : cChk 761 gCT gRU gC761 0 gH761 3000 = true := by decide +kernel
noncomputable def gH762 : sHt := ([], [], [(15, [[376, 377, 378, 379]])], [], [(2, [761]), (17, [386])], [])
theorem gK762 : cChk 762 gCT gRU gC762 0 gH762 3000 = true := by decide +kernel
end CkChk46
