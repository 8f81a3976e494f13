section CkLaw3
set_option maxRecDepth 100000 in
theorem gW0A : lRun gLm gLh gLt 200 212 gLA.1 gLA.2.1 [] gLA.2.2 = true := by decide +kernel
set_option maxRecDepth 100000 in
theorem gW0B : lRun gLm gLh gLt 200 212 gLB.1 gLB.2.1 [] gLB.2.2 = true := by decide +kernel
set_option maxRecDepth 100000 in
theorem gW0C : lRun gLm gLh gLt 200 212 gLC.1 gLC.2.1 [] gLC.2.2 = true := by decide +kernel
set_option maxRecDepth 100000 in
theorem gW0D : lRun gLm gLh gLt 200 212 gLD.1 gLD.2.1 [] gLD.2.2 = true := by decide +kernel
set_option maxRecDepth 100000 in
theorem gW1A : lRun gLm gLh gLt 200 285 gLA.1 gLA.2.1 [] gLA.2.2 = true := by decide +kernel
set_option maxRecDepth 100000 in
theorem gW1B : lRun gLm gLh gLt 200 285 gLB.1 gLB.2.1 [] gLB.2.2 = true := by decide +kernel
set_option maxRecDepth 100000 in
theorem gW1C : lRun gLm gLh gLt 200 285 gLC.1 gLC.2.1 [] gLC.2.2 = true := by decide +kernel
set_option maxRecDepth 100000 in
theorem gW1D : lRun gLm gLh gLt 200 285 gLD.1 gLD.2.1 [] gLD.2.2 = true := by decide +kernel
set_option maxRecDepth 100000 in
theorem gW2A : lRun gLm gLh gLt 200 310 gLA.1 gLA.2.1 [] gLA.2.2 = true := by decide +kernel
set_option maxRecDepth 100000 in
theorem gW2B : lRun gLm gLh gLt 200 310 gLB.1 gLB.2.1 [] gLB.2.2 = true := by decide +kernel
set_option maxRecDepth 100000 in
theorem gW2C : lRun gLm gLh gLt 200 310 gLC.1 gLC.2.1 [] gLC.2.2 = true := by decide +kernel
set_option maxRecDepth 100000 in
theorem gW2D : lRun gLm gLh gLt 200 310 gLD.1 gLD.2.1 [] gLD.2.2 = true := by decide +kernel
set_option maxRecDepth 100000 in
theorem gW3A : lRun gLm gLh gLt 200 323 gLA.1 gLA.2.1 [] gLA.2.2 = true := by decide +kernel
set_option maxRecDepth 100000 in
theorem gW3B : lRun gLm gLh gLt 200 323 gLB.1 gLB.2.1 [] gLB.2.2 = true := by decide +kernel
set_option maxRecDepth 100000 in
theorem gW3C : lRun gLm gLh gLt 200 323 gLC.1 gLC.2.1 [] gLC.2.2 = true := by decide +kernel
set_option maxRecDepth 100000 in
theorem gW3D : lRun gLm gLh gLt 200 323 gLD.1 gLD.2.1 [] gLD.2.2 = true := by decide +kernel
set_option maxRecDepth 100000 in
theorem gW6A : lRun gLm gLh gLt 200 428 gLA.1 gLA.2.1 [] gLA.2.2 = true := by decide +kernel
set_option maxRecDepth 100000 in
theorem gW6B : lRun gLm gLh gLt 200 428 gLB.1 gLB.2.1 [] gLB.2.2 = true := by decide +kernel
set_option maxRecDepth 100000 in
theorem gW6C : lRun gLm gLh gLt 200 428 gLC.1 gLC.2.1 [] gLC.2.2 = true := by decide +kernel
set_option maxRecDepth 100000 in
theorem gW6D : lRun gLm gLh gLt 200 428 gLD.1 gLD.2.1 [] gLD.2.2 = true := by decide +kernel
set_option maxRecDepth 100000 in
theorem gW7A : lRun gLm gLh gLt 200 465 gLA.1 gLA.2.1 [] gLA.2.2 = true := by decide +kernel
set_option maxRecDepth 100000 in
theorem gW7B : lRun gLm gLh gLt 200 465 gLB.1 gLB.2.1 [] gLB.2.2 = true := by decide +kernel
set_option maxRecDepth 100000 in
theorem gW7C : lRun gLm gLh gLt 200 465 gLC.1 gLC.2.1 [] gLC.2.2 = true := by decide +kernel
set_option maxRecDepth 100000 in
theorem gW7D : lRun gLm gLh gLt 200 465 gLD.1 gLD.2.1 [] gLD.2.2 = true := by decide +kernel
set_option maxRecDepth 100000 in
theorem gW8A : lRun gLm gLh gLt 200 502 gLA.1 gLA.2.1 [] gLA.2.2 = true := by decide +kernel
set_option maxRecDepth 100000 in
theorem gW8B : lRun gLm gLh gLt 200 502 gLB.1 gLB.2.1 [] gLB.2.2 = true := by decide +kernel
set_option maxRecDepth 100000 in
theorem gW8C : lRun gLm gLh gLt 200 502 gLC.1 gLC.2.1 [] gLC.2.2 = true := by decide +kernel
set_option maxRecDepth 100000 in
theorem gW8D : lRun gLm gLh gLt 200 502 gLD.1 gLD.2.1 [] gLD.2.2 = true := by decide +kernel
set_option maxRecDepth 100000 in
theorem gW9A : lRun gLm gLh gLt 200 527 gLA.1 gLA.2.1 [] gLA.2.2 = true := by decide +kernel
set_option maxRecDepth 100000 in
theorem gW9B : lRun gLm gLh gLt 200 527 gLB.1 gLB.2.1 [] gLB.2.2 = true := by decide +kernel
set_option maxRecDepth 100000 in
theorem gW9C : lRun gLm gLh gLt 200 527 gLC.1 gLC.2.1 [] gLC.2.2 = true := by decide +kernel
set_option maxRecDepth 100000 in
theorem gW9D : lRun gLm gLh gLt 200 527 gLD.1 gLD.2.1 [] gLD.2.2 = true := by decide +kernel
set_option maxRecDepth 100000 in
theorem gW10A : lRun gLm gLh gLt 200 564 gLA.1 gLA.2.1 [] gLA.2.2 = true := by decide +kernel
set_option maxRecDepth 100000 in
theorem gW10B : lRun gLm gLh gLt 200 564 gLB.1 gLB.2.1 [] gLB.2.2 = true := by decide +kernel
set_option maxRecDepth 100000 in
theorem gW10C : lRun gLm gLh gLt 200 564 gLC.1 gLC.2.1 [] gLC.2.2 = true := by decide +kernel
set_option maxRecDepth 100000 in
theorem gW10D : lRun gLm gLh gLt 200 564 gLD.1 gLD.2.1 [] gLD.2.2 = true := by decide +kernel
set_option maxRecDepth 100000 in
theorem gW11A : lRun gLm gLh gLt 200 613 gLA.1 gLA.2.1 [] gLA.2.2 = true := by decide +kernel
set_option maxRecDepth 100000 in
theorem gW11B : lRun gLm gLh gLt 200 613 gLB.1 gLB.2.1 [] gLB.2.2 = true := by decide +kernel
set_option maxRecDepth 100000 in
theorem gW11C : lRun gLm gLh gLt 200 613 gLC.1 gLC.2.1 [] gLC.2.2 = true := by decide +kernel
set_option maxRecDepth 100000 in
theorem gW11D : lRun gLm gLh gLt 200 613 gLD.1 gLD.2.1 [] gLD.2.2 = true := by decide +kernel
set_option maxRecDepth 100000 in
theorem gW12A : lRun gLm gLh gLt 200 638 gLA.1 gLA.2.1 [] gLA.2.2 = true := by decide +kernel
set_option maxRecDepth 100000 in
theorem gW12B : lRun gLm gLh gLt 200 638 gLB.1 gLB.2.1 [] gLB.2.2 = true := by decide +kernel
set_option maxRecDepth 100000 in
theorem gW12C : lRun gLm gLh gLt 200 638 gLC.1 gLC.2.1 [] gLC.2.2 = true := by decide +kernel
set_option maxRecDepth 100000 in
theorem gW12D : lRun gLm gLh gLt 200 638 gLD.1 gLD.2.1 [] gLD.2.2 = true := by decide +kernel
set_option maxRecDepth 100000 in
theorem gW13A : lRun gLm gLh gLt 200 675 gLA.1 gLA.2.1 [] gLA.2.2 = true := by decide +kernel
set_option maxRecDepth 100000 in
theorem gW13B : lRun gLm gLh gLt 200 675 gLB.1 gLB.2.1 [] gLB.2.2 = true := by decide +kernel
set_option maxRecDepth 100000 in
theorem gW13C : lRun gLm gLh gLt 200 675 gLC.1 gLC.2.1 [] gLC.2.2 = true := by decide +kernel
set_option maxRecDepth 100000 in
theorem gW13D : lRun gLm gLh gLt 200 675 gLD.1 gLD.2.1 [] gLD.2.2 = true := by decide +kernel
set_option maxRecDepth 100000 in
theorem gW14A : lRun gLm gLh gLt 200 712 gLA.1 gLA.2.1 [] gLA.2.2 = true := by decide +kernel
set_option maxRecDepth 100000 in
theorem gW14B : lRun gLm gLh gLt 200 712 gLB.1 gLB.2.1 [] gLB.2.2 = true := by decide +kernel
set_option maxRecDepth 100000 in
theorem gW14C : lRun gLm gLh gLt 200 712 gLC.1 gLC.2.1 [] gLC.2.2 = true := by decide +kernel
set_option maxRecDepth 100000 in
theorem gW14D : lRun gLm gLh gLt 200 712 gLD.1 gLD.2.1 [] gLD.2.2 = true := by decide +kernel
set_option maxRecDepth 100000 in
theorem gW15A : lRun gLm gLh gLt 200 725 gLA.1 gLA.2.1 [] gLA.2.2 = true := by decide +kernel
set_option maxRecDepth 100000 in
theorem gW15B : lRun gLm gLh gLt 200 725 gLB.1 gLB.2.1 [] gLB.2.2 = true := by decide +kernel
set_option maxRecDepth 100000 in
theorem gW15C : lRun gLm gLh gLt 200 725 gLC.1 gLC.2.1 [] gLC.2.2 = true := by decide +kernel
set_option maxRecDepth 100000 in
theorem gW15D : lRun gLm gLh gLt 200 725 gLD.1 gLD.2.1 [] gLD.2.2 = true := by decide +kernel
set_option maxRecDepth 100000 in
theorem gW16A : lRun gLm gLh gLt 200 786 gLA.1 gLA.2.1 [] gLA.2.2 = true := by decide +kernel
set_option maxRecDepth 100000 in
theorem gW16B : lRun gLm gLh gLt 200 786 gLB.1 gLB.2.1 [] gLB.2.2 = true := by decide +kernel
set_option maxRecDepth 100000 in
theorem gW16C : lRun gLm gLh gLt 200 786 gLC.1 gLC.2.1 [] gLC.2.2 = true := by decide +kernel
set_option maxRecDepth 100000 in
theorem gW16D : lRun gLm gLh gLt 200 786 gLD.1 gLD.2.1 [] gLD.2.2 = true := by decide +kernel
set_option maxRecDepth 100000 in
theorem gW17A : lRun gLm gLh gLt 200 847 gLA.1 gLA.2.1 [] gLA.2.2 = true := by decide +kernel
set_option maxRecDepth 100000 in
theorem gW17B : lRun gLm gLh gLt 200 847 gLB.1 gLB.2.1 [] gLB.2.2 = true := by decide +kernel
set_option maxRecDepth 100000 in
theorem gW17C : lRun gLm gLh gLt 200 847 gLC.1 gLC.2.1 [] gLC.2.2 = true := by decide +kernel
set_option maxRecDepth 100000 in
theorem gW17D : lRun gLm gLh gLt 200 847 gLD.1 gLD.2.1 [] gLD.2.2 = true := by decide +kernel
set_option maxRecDepth 100000 in
theorem gW18A : lRun gLm gLh gLt 200 908 gLA.1 gLA.2.1 [] gLA.2.2 = true := by decide +kernel
set_option maxRecDepth 100000 in
theorem gW18B : lRun gLm gLh gLt 200 908 gLB.1 gLB.2.1 [] gLB.2.2 = true := by decide +kernel
set_option maxRecDepth 100000 in
theorem gW18C : lRun gLm gLh gLt 200 908 gLC.1 gLC.2.1 [] gLC.2.2 = true := by decide +kernel
set_option maxRecDepth 100000 in
theorem gW18D : lRun gLm gLh gLt 200 908 gLD.1 gLD.2.1 [] gLD.2.2 = true := by decide +kernel
set_option maxRecDepth 100000 in
theorem gW19A : lRun gLm gLh gLt 200 957 gLA.1 gLA.2.1 [] gLA.2.2 = true := by decide +kernel
set_option maxRecDepth 100000 in
theorem gW19B : lRun gLm gLh gLt 200 957 gLB.1 gLB.2.1 [] gLB.2.2 = true := by decide +kernel
set_option maxRecDepth 100000 in
theorem gW19C : lRun gLm gLh gLt 200 957 gLC.1 gLC.2.1 [] gLC.2.2 = true := by decide +kernel
set_option maxRecDepth 100000 in
theorem gW19D : lRun gLm gLh gLt 200 957 gLD.1 gLD.2.1 [] gLD.2.2 = true := by decide +kernel
set_option maxRecDepth 100000 in
theorem gW21A : lRun gLm gLh gLt 200 1058 gLA.1 gLA.2.1 [] gLA.2.2 = true := by decide +kernel
set_option maxRecDepth 100000 in
theorem gW21B : lRun gLm gLh gLt 200 1058 gLB.1 gLB.2.1 [] gLB.2.2 = true := by decide +kernel
set_option maxRecDepth 100000 in
theorem gW21C : lRun gLm gLh gLt 200 1058 gLC.1 gLC.2.1 [] gLC.2.2 = true := by decide +kernel
set_option maxRecDepth 100000 in
theorem gW21D : lRun gLm gLh gLt 200 1058 gLD.1 gLD.2.1 [] gLD.2.2 = true := by decide +kernel
set_option maxRecDepth 100000 in
theorem gW22A : lRun gLm gLh gLt 200 1107 gLA.1 gLA.2.1 [] gLA.2.2 = true := by decide +kernel
set_option maxRecDepth 100000 in
theorem gW22B : lRun gLm gLh gLt 200 1107 gLB.1 gLB.2.1 [] gLB.2.2 = true := by decide +kernel
set_option maxRecDepth 100000 in
theorem gW22C : lRun gLm gLh gLt 200 1107 gLC.1 gLC.2.1 [] gLC.2.2 = true := by decide +kernel
set_option maxRecDepth 100000 in
theorem gW22D : lRun gLm gLh gLt 200 1107 gLD.1 gLD.2.1 [] gLD.2.2 = true := by decide +kernel
set_option maxRecDepth 100000 in
theorem gW23A : lRun gLm gLh gLt 200 1120 gLA.1 gLA.2.1 [] gLA.2.2 = true := by decide +kernel
set_option maxRecDepth 100000 in
theorem gW23B : lRun gLm gLh gLt 200 1120 gLB.1 gLB.2.1 [] gLB.2.2 = true := by decide +kernel
set_option maxRecDepth 100000 in
theorem gW23C : lRun gLm gLh gLt 200 1120 gLC.1 gLC.2.1 [] gLC.2.2 = true := by decide +kernel
set_option maxRecDepth 100000 in
theorem gW23D : lRun gLm gLh gLt 200 1120 gLD.1 gLD.2.1 [] gLD.2.2 = true := by decide +kernel
set_option maxRecDepth 100000 in
theorem gW24A : lRun gLm gLh gLt 200 1133 gLA.1 gLA.2.1 [] gLA.2.2 = true := by decide +kernel
set_option maxRecDepth 100000 in
theorem gW24B : lRun gLm gLh gLt 200 1133 gLB.1 gLB.2.1 [] gLB.2.2 = true := by decide +kernel
set_option maxRecDepth 100000 in
theorem gW24C : lRun gLm gLh gLt 200 1133 gLC.1 gLC.2.1 [] gLC.2.2 = true := by decide +kernel
set_option maxRecDepth 100000 in
theorem gW24D : lRun gLm gLh gLt 200 1133 gLD.1 gLD.2.1 [] gLD.2.2 = true := by decide +kernel
set_option maxRecDepth 100000 in
theorem gW25A : lRun gLm gLh gLt 200 1170 gLA.1 gLA.2.1 [] gLA.2.2 = true := by decide +kernel
set_option maxRecDepth 100000 in
theorem gW25B : lRun gLm gLh gLt 200 1170 gLB.1 gLB.2.1 [] gLB.2.2 = true := by decide +kernel
set_option maxRecDepth 100000 in
theorem gW25C : lRun gLm gLh gLt 200 1170 gLC.1 gLC.2.1 [] gLC.2.2 = true := by decide +kernel
set_option maxRecDepth 100000 in
theorem gW25D : lRun gLm gLh gLt 200 1170 gLD.1 gLD.2.1 [] gLD.2.2 = true := by decide +kernel
set_option maxRecDepth 100000 in
theorem gW26A : lRun gLm gLh gLt 200 1183 gLA.1 gLA.2.1 [] gLA.2.2 = true := by decide +kernel
set_option maxRecDepth 100000 in
theorem gW26B : lRun gLm gLh gLt 200 1183 gLB.1 gLB.2.1 [] gLB.2.2 = true := by decide +kernel
set_option maxRecDepth 100000 in
theorem gW26C : lRun gLm gLh gLt 200 1183 gLC.1 gLC.2.1 [] gLC.2.2 = true := by decide +kernel
set_option maxRecDepth 100000 in
theorem gW26D : lRun gLm gLh gLt 200 1183 gLD.1 gLD.2.1 [] gLD.2.2 = true := by decide +kernel
set_option maxRecDepth 100000 in
theorem gW27A : lRun gLm gLh gLt 200 1244 gLA.1 gLA.2.1 [] gLA.2.2 = true := by decide +kernel
set_option maxRecDepth 100000 in
theorem gW27B : lRun gLm gLh gLt 200 1244 gLB.1 gLB.2.1 [] gLB.2.2 = true := by decide +kernel
set_option maxRecDepth 100000 in
theorem gW27C : lRun gLm gLh gLt 200 1244 gLC.1 gLC.2.1 [] gLC.2.2 = true := by decide +kernel
set_option maxRecDepth 100000 in
theorem gW27D : lRun gLm gLh gLt 200 1244 gLD.1 gLD.2.1 [] gLD.2.2 = true := by decide +kernel
set_option maxRecDepth 100000 in
theorem gW28A : lRun gLm gLh gLt 200 1281 gLA.1 gLA.2.1 [] gLA.2.2 = true := by decide +kernel
set_option maxRecDepth 100000 in
theorem gW28B : lRun gLm gLh gLt 200 1281 gLB.1 gLB.2.1 [] gLB.2.2 = true := by decide +kernel
set_option maxRecDepth 100000 in
theorem gW28C : lRun gLm gLh gLt 200 1281 gLC.1 gLC.2.1 [] gLC.2.2 = true := by decide +kernel
set_option maxRecDepth 100000 in
theorem gW28D : lRun gLm gLh gLt 200 1281 gLD.1 gLD.2.1 [] gLD.2.2 = true := by decide +kernel
set_option maxRecDepth 100000 in
theorem gW29A : lRun gLm gLh gLt 200 1342 gLA.1 gLA.2.1 [] gLA.2.2 = true := by decide +kernel
set_option maxRecDepth 100000 in
theorem gW29B : lRun gLm gLh gLt 200 1342 gLB.1 gLB.2.1 [] gLB.2.2 = true := by decide +kernel
set_option maxRecDepth 100000 in
theorem gW29C : lRun gLm gLh gLt 200 1342 gLC.1 gLC.2.1 [] gLC.2.2 = true := by decide +kernel
set_option maxRecDepth 100000 in
theorem gW29D : lRun gLm gLh gLt 200 1342 gLD.1 gLD.2.1 [] gLD.2.2 = true := by decide +kernel
set_option maxRecDepth 100000 in
theorem gW30A : lRun gLm gLh gLt 200 1355 gLA.1 gLA.2.1 [] gLA.2.2 = true := by decide +kernel
set_option maxRecDepth 100000 in
theorem gW30B : lRun gLm gLh gLt 200 1355 gLB.1 gLB.2.1 [] gLB.2.2 = true := by decide +kernel
set_option maxRecDepth 100000 in
theorem gW30C : lRun gLm gLh gLt 200 1355 gLC.1 gLC.2.1 [] gLC.2.2 = true := by decide +kernel
set_option maxRecDepth 100000 in
theorem gW30D : lRun gLm gLh gLt 200 1355 gLD.1 gLD.2.1 [] gLD.2.2 = true := by decide +kernel
set_option maxRecDepth 100000 in
theorem gW31A : lRun gLm gLh gLt 200 1392 gLA.1 gLA.2.1 [] gLA.2.2 = true := by decide +kernel
set_option maxRecDepth 100000 in
theorem gW31B : lRun gLm gLh gLt 200 1392 gLB.1 gLB.2.1 [] gLB.2.2 = true := by decide +kernel
set_option maxRecDepth 100000 in
theorem gW31C : lRun gLm gLh gLt 200 1392 gLC.1 gLC.2.1 [] gLC.2.2 = true := by decide +kernel
set_option maxRecDepth 100000 in
theorem gW31D : lRun gLm gLh gLt 200 1392 gLD.1 gLD.2.1 [] gLD.2.2 = true := by decide +kernel
set_option maxRecDepth 100000 in
theorem gW32A : lRun gLm gLh gLt 200 1453 gLA.1 gLA.2.1 [] gLA.2.2 = true := by decide +kernel
set_option maxRecDepth 100000 in
theorem gW32B : lRun gLm gLh gLt 200 1453 gLB.1 gLB.2.1 [] gLB.2.2 = true := by decide +kernel
set_option maxRecDepth 100000 in
theorem gW32C : lRun gLm gLh gLt 200 1453 gLC.1 gLC.2.1 [] gLC.2.2 = true := by decide +kernel
set_option maxRecDepth 100000 in
theorem gW32D : lRun gLm gLh gLt 200 1453 gLD.1 gLD.2.1 [] gLD.2.2 = true := by decide +kernel
set_option maxRecDepth 100000 in
theorem gW33A : lRun gLm gLh gLt 200 1478 gLA.1 gLA.2.1 [] gLA.2.2 = true := by decide +kernel
set_option maxRecDepth 100000 in
theorem gW33B : lRun gLm gLh gLt 200 1478 gLB.1 gLB.2.1 [] gLB.2.2 = true := by decide +kernel
set_option maxRecDepth 100000 in
theorem gW33C : lRun gLm gLh gLt 200 1478 gLC.1 gLC.2.1 [] gLC.2.2 = true := by decide +kernel
set_option maxRecDepth 100000 in
theorem gW33D : lRun gLm gLh gLt 200 1478 gLD.1 gLD.2.1 [] gLD.2.2 = true := by decide +kernel
set_option maxRecDepth 100000 in
theorem gW34A : lRun gLm gLh gLt 200 1503 gLA.1 gLA.2.1 [] gLA.2.2 = true := by decide +kernel
set_option maxRecDepth 100000 in
theorem gW34B : lRun gLm gLh gLt 200 1503 gLB.1 gLB.2.1 [] gLB.2.2 = true := by decide +kernel
set_option maxRecDepth 100000 in
theorem gW34C : lRun gLm gLh gLt 200 1503 gLC.1 gLC.2.1 [] gLC.2.2 = true := by decide +kernel
set_option maxRecDepth 100000 in
theorem gW34D : lRun gLm gLh gLt 200 1503 gLD.1 gLD.2.1 [] gLD.2.2 = true := by decide +kernel
set_option maxRecDepth 100000 in
theorem gW35A : lRun gLm gLh gLt 200 1516 gLA.1 gLA.2.1 [] gLA.2.2 = true := by decide +kernel
set_option maxRecDepth 100000 in
theorem gW35B : lRun gLm gLh gLt 200 1516 gLB.1 gLB.2.1 [] gLB.2.2 = true := by decide +kernel
set_option maxRecDepth 100000 in
theorem gW35C : lRun gLm gLh gLt 200 1516 gLC.1 gLC.2.1 [] gLC.2.2 = true := by decide +kernel
set_option maxRecDepth 100000 in
theorem gW35D : lRun gLm gLh gLt 200 1516 gLD.1 gLD.2.1 [] gLD.2.2 = true := by decide +kernel
set_option maxRecDepth 100000 in
theorem gW36A : lRun gLm gLh gLt 200 1541 gLA.1 gLA.2.1 [] gLA.2.2 = true := by decide +kernel
set_option maxRecDepth 100000 in
theorem gW36B : lRun gLm gLh gLt 200 1541 gLB.1 gLB.2.1 [] gLB.2.2 = true := by decide +kernel
set_option maxRecDepth 100000 in
theorem gW36C : lRun gLm gLh gLt 200 1541 gLC.1 gLC.2.1 [] gLC.2.2 = true := by decide +kernel
set_option maxRecDepth 100000 in
theorem gW36D : lRun gLm gLh gLt 200 1541 gLD.1 gLD.2.1 [] gLD.2.2 = true := by decide +kernel
set_option maxRecDepth 100000 in
theorem gW37A : lRun gLm gLh gLt 200 1566 gLA.1 gLA.2.1 [] gLA.2.2 = true := by decide +kernel
set_option maxRecDepth 100000 in
theorem gW37B : lRun gLm gLh gLt 200 1566 gLB.1 gLB.2.1 [] gLB.2.2 = true := by decide +kernel
set_option maxRecDepth 100000 in
theorem gW37C : lRun gLm gLh gLt 200 1566 gLC.1 gLC.2.1 [] gLC.2.2 = true := by decide +kernel
set_option maxRecDepth 100000 in
theorem gW37D : lRun gLm gLh gLt 200 1566 gLD.1 gLD.2.1 [] gLD.2.2 = true := by decide +kernel
set_option maxRecDepth 100000 in
theorem gW38A : lRun gLm gLh gLt 200 1591 gLA.1 gLA.2.1 [] gLA.2.2 = true := by decide +kernel
set_option maxRecDepth 100000 in
theorem gW38B : lRun gLm gLh gLt 200 1591 gLB.1 gLB.2.1 [] gLB.2.2 = true := by decide +kernel
set_option maxRecDepth 100000 in
theorem gW38C : lRun gLm gLh gLt 200 1591 gLC.1 gLC.2.1 [] gLC.2.2 = true := by decide +kernel
set_option maxRecDepth 100000 in
theorem gW38D : lRun gLm gLh gLt 200 1591 gLD.1 gLD.2.1 [] gLD.2.2 = true := by decide +kernel
set_option maxRecDepth 100000 in
theorem gW39A : lRun gLm gLh gLt 200 1616 gLA.1 gLA.2.1 [] gLA.2.2 = true := by decide +kernel
set_option maxRecDepth 100000 in
theorem gW39B : lRun gLm gLh gLt 200 1616 gLB.1 gLB.2.1 [] gLB.2.2 = true := by decide +kernel
set_option maxRecDepth 100000 in
theorem gW39C : lRun gLm gLh gLt 200 1616 gLC.1 gLC.2.1 [] gLC.2.2 = true := by decide +kernel
set_option maxRecDepth 100000 in
theorem gW39D : lRun gLm gLh gLt 200 1616 gLD.1 gLD.2.1 [] gLD.2.2 = true := by decide +kernel
end CkLaw3
