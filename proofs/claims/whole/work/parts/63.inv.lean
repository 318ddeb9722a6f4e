/-! SAFETY: ranges and references of the cells, frames: printed by wip/gen/inv.py -/
noncomputable def lay0 : Nat → Nat × Nat := layN layF 1014
def rTl : List (Nat × Nat) := [(0, 1), (1, 20), (2, 246), (3, 882), (4, 876), (5, 890), (6, 891), (7, 900), (256, 2), (257, 3), (258, 4), (260, 5), (261, 6), (262, 7), (263, 8), (264, 9), (265, 10), (266, 11), (267, 12), (268, 13), (269, 14), (270, 15), (271, 16), (272, 17), (273, 18), (274, 19), (5120, 1), (5122, 21), (5123, 22), (5124, 23), (5125, 24), (5126, 65), (5127, 106), (5128, 147), (5129, 188), (5130, 195), (5131, 220), (62976, 1), (62977, 247), (62979, 272), (62980, 273), (62982, 274), (62983, 275), (224256, 877), (224257, 878), (224258, 879), (224259, 880), (225792, 876), (225793, 1), (225794, 20), (225796, 883), (225797, 884), (225798, 885), (225799, 886), (225800, 887), (225801, 888), (225803, 889), (227840, 876), (228096, 876), (228097, 890), (228098, 1), (228099, 20), (228100, 895), (228101, 899), (228102, 882), (228103, 892), (228104, 893), (228109, 894), (229120, 876), (229121, 1), (229122, 20), (229135, 896), (229136, 897), (229137, 898), (230144, 876), (230145, 1), (230146, 895), (230147, 246), (230400, 1), (230401, 20), (230402, 246), (230403, 901), (230407, 996), (230408, 1005)]
def rM0 : List (Nat × Nat) := [(0, 905), (2, 906), (4, 907), (5, 908), (6, 909), (7, 910), (9, 911), (10, 912), (11, 913), (12, 914), (13, 915), (14, 916), (17, 917), (20, 918), (21, 919), (22, 920)]
def rM1 : List (Nat × Nat) := [(24, 921), (25, 922), (26, 923), (27, 924), (28, 925), (29, 926), (31, 927), (33, 928), (34, 929), (35, 930), (36, 931), (37, 932), (38, 933), (39, 934), (40, 935), (42, 936), (43, 937), (44, 938), (45, 939), (46, 940)]
def rM2 : List (Nat × Nat) := [(48, 941), (50, 942), (52, 943), (53, 944), (54, 945), (56, 946), (57, 947), (58, 948), (59, 949), (67, 950), (68, 951)]
def rM3 : List (Nat × Nat) := [(82, 952), (83, 953), (84, 954), (85, 955), (86, 956), (87, 957), (88, 958), (89, 959), (90, 960), (91, 961), (92, 962), (95, 963)]
def rM4 : List (Nat × Nat) := [(96, 964), (97, 965), (107, 966), (111, 967), (114, 968), (118, 969), (119, 970)]
def rM5 : List (Nat × Nat) := [(120, 971), (121, 972), (122, 973), (123, 974), (124, 975), (126, 976), (127, 977), (131, 978), (132, 979), (133, 980), (134, 981), (135, 982), (136, 983), (137, 984), (138, 985), (139, 986), (140, 987), (143, 988)]
def rM6 : List (Nat × Nat) := [(145, 989), (148, 990), (149, 991), (152, 992), (155, 993), (159, 994), (163, 995)]
def rM (j : Nat) : List (Nat × Nat) := bif Nat.blt j 96 then bif Nat.blt j 48 then bif Nat.blt j 24 then rM0 else rM1 else bif Nat.blt j 72 then rM2 else rM3 else bif Nat.blt j 144 then bif Nat.blt j 120 then rM4 else rM5 else rM6
def rT (k j : Nat) : Option Nat := bif Nat.blt j 256 then bif Nat.beq k 904 then lkp (rM j) j else lkp rTl (k * 256 + j) else none
def rRw : List (Nat × Nat × Nat) := [(24, 25, 40), (65, 66, 40), (106, 107, 40), (147, 148, 40), (188, 189, 6), (195, 196, 24), (220, 221, 24), (247, 248, 24), (273, 276, 600), (996, 997, 8), (1005, 1006, 8)]
def fullR : Int × Int := (-2147483648, 2147483647)
def lhL : List (Nat × List (Int × Int)) := [(0, [((-2147483648), 2147483647), ((-2147483648), 2147483647), ((-2147483648), 2147483647), ((-2147483648), 2147483647), ((-2147483648), 2147483647), ((-2147483648), 2147483647), ((-2147483648), 2147483647), ((-2147483648), 2147483647), ((-2147483648), 2147483647), ((-2147483648), 2147483647), (0, 5000), (0, 9)]), (1, [((-2147483648), 2147483647), ((-2147483648), 2147483647), ((-2147483648), 2147483647), (0, 200), ((-2147483648), 2147483647), ((-2147483648), 2147483647), ((-2147483648), 2147483647), ((-2147483648), 2147483647), ((-2147483648), 2147483647), ((-2147483648), 2147483647), ((-2147483648), 2147483647), ((-2147483648), 2147483647), ((-2147483648), 2147483647), ((-2147483648), 2147483647), ((-2147483648), 2147483647), ((-2147483648), 2147483647), ((-2147483648), 2147483647), ((-2147483648), 2147483647), ((-2147483648), 2147483647)]), (3, [(0, 14)]), (4, [(0, 63)]), (5, [(0, 16), (0, 8), (0, 24), (0, 24), (0, 64), (0, 12), (0, 6), (0, 8), (0, 12)]), (6, [((-1), 15)]), (8, [(0, 7)]), (9, [(0, 7)]), (10, [(0, 15)]), (11, [((-1), 23)]), (13, [(0, 6)]), (14, [(0, 15)]), (15, [(0, 15)]), (16, [(0, 1)]), (17, [(0, 1)]), (18, [(0, 5)]), (19, [((-2), 15)]), (21, [(0, 15)]), (22, [(0, 5)]), (23, [((-1), 23)]), (246, [((-2147483648), 2147483647), ((-2147483648), 2147483647), (0, 24), ((-2147483648), 2147483647), ((-2147483648), 2147483647), (0, 200000), ((-2147483648), 2147483647), ((-2147483648), 2147483647), (0, 1666)]), (272, [(0, 23)]), (274, [((-2), 23)]), (275, [((-1), 11)]), (876, [((-2147483648), 2147483647), ((-2147483648), 2147483647), ((-2147483648), 2147483647), ((-2147483648), 2147483647), ((-2147483648), 2147483647), (0, 5000), (0, 5002), (0, 5125), (0, 9), (0, 5000)]), (877, [(0, 108)]), (878, [(0, 5000)]), (882, [((-2147483648), 2147483647), ((-2147483648), 2147483647), ((-2147483648), 2147483647), (0, 20), ((-2147483648), 2147483647), ((-2147483648), 2147483647), ((-2147483648), 2147483647), ((-2147483648), 2147483647), ((-2147483648), 2147483647), ((-2147483648), 2147483647), (0, 5000), ((-2147483648), 2147483647), (0, 50), ((-1), 255)]), (883, [(0, 11)]), (884, [(0, 8)]), (885, [((-1), 7)]), (886, [((-2), 255)]), (890, [((-2147483648), 2147483647), (0, 5126), (0, 20), ((-1), 5124)]), (891, [((-2147483648), 2147483647), ((-2147483648), 2147483647), ((-2147483648), 2147483647), ((-2147483648), 2147483647), ((-2147483648), 2147483647), ((-2147483648), 2147483647), ((-2147483648), 2147483647), ((-2147483648), 2147483647), ((-2147483648), 2147483647), (0, 24), ((-1), 23), (0, 5), ((-1), 23), ((-2147483648), 2147483647)]), (892, [(0, 5130)]), (893, [(0, 5130)]), (895, [((-2147483648), 2147483647), ((-2147483648), 2147483647), ((-2147483648), 2147483647), ((-2147483648), 2147483647), ((-1), 15), ((-2), 23), ((-1), 15), ((-2147483648), 2147483647), (0, 255), ((-1), 11), ((-2147483648), 2147483647), ((-2147483648), 2147483647), (0, 15), ((-2147483648), 2147483647), (0, 5), ((-2147483648), 2147483647), ((-2147483648), 2147483647), ((-2147483648), 2147483647)]), (896, [(0, 63)]), (897, [((-1), 11)]), (899, [((-2147483648), 2147483647), ((-2147483648), 2147483647), ((-2147483648), 2147483647), ((-2147483648), 2147483647), ((-2147483648), 2147483647), ((-1), 5131), (0, 6)]), (900, [((-2147483648), 2147483647), ((-2147483648), 2147483647), ((-2147483648), 2147483647), ((-2147483648), 2147483647), (0, 2000), (0, 301), (0, 1)]), (901, [((-128), 127)]), (902, [((-128), 127)]), (903, [((-128), 127)])]
def lB0 : List (Nat × List (Int × Int)) := [(905, [((-128), 127)]), (906, [((-128), 127)]), (907, [(0, 154)]), (908, [(0, 5000)]), (909, [(0, 5000)])]
def lB1 : List (Nat × List (Int × Int)) := [(912, [(0, 3)]), (914, [(0, 12)]), (915, [(0, 63)]), (916, [(0, 1)]), (917, [((-1), 15)]), (918, [(0, 15)]), (919, [(0, 5)])]
def lB2 : List (Nat × List (Int × Int)) := [(920, [((-1), 23)]), (921, [(0, 15)]), (922, [((-1), 23)]), (923, [(0, 480)]), (924, [(0, 6)]), (925, [(0, 2)]), (926, [(0, 2)]), (927, [(0, 7)])]
def lB3 : List (Nat × List (Int × Int)) := [(928, [(0, 7)]), (929, [(0, 1)]), (930, [(0, 1)]), (933, [(0, 1)])]
def lB4 : List (Nat × List (Int × Int)) := [(936, [(0, 15)]), (937, [(0, 15)]), (938, [(0, 1)]), (939, [(0, 1)]), (940, [(0, 1)]), (941, [(0, 5)]), (942, [((-2), 15)]), (943, [(0, 23)])]
def lB5 : List (Nat × List (Int × Int)) := [(944, [(0, 5)]), (945, [(0, 23)]), (946, [(0, 11)]), (947, [(0, 8)]), (949, [((-2), 15)]), (950, [(0, 5010)]), (951, [(0, 5010)])]
def lB6 : List (Nat × List (Int × Int)) := [(952, [(0, 5)]), (953, [(0, 1)]), (954, [(0, 25010)]), (955, [(0, 2600)]), (956, [(0, 2600)]), (957, [(0, 5010)]), (958, [(0, 5)]), (959, [(0, 25010)])]
def lB7 : List (Nat × List (Int × Int)) := [(960, [((-1), 2600)]), (961, [(0, 5010)]), (962, [(0, 5010)]), (963, [(0, 6)]), (964, [(0, 1700)]), (965, [(0, 5010)]), (966, [(0, 2600)]), (967, [((-1), 6411)])]
def lB8 : List (Nat × List (Int × Int)) := [(968, [((-1), 6411)]), (969, [(0, 5)]), (970, [(0, 1)]), (971, [((-9), 23)]), (972, [((-1), 11)]), (975, [((-9), 23)])]
def lB9 : List (Nat × List (Int × Int)) := [(976, [(0, 6)]), (977, [(0, 2400)]), (978, [(0, 3)]), (979, [((-1), 11)]), (980, [((-1), 23)]), (981, [((-1), 15)]), (982, [(0, 6)]), (983, [((-1), 6411)])]
def lB10 : List (Nat × List (Int × Int)) := [(984, [(0, 480)]), (985, [(0, 6)]), (986, [(0, 192)]), (987, [(0, 8)]), (988, [(0, 23)]), (989, [(0, 23)]), (990, [(0, 23)])]
def lB11 : List (Nat × List (Int × Int)) := [(993, [((-128), 127)])]
def lBs (k : Nat) : List (Nat × List (Int × Int)) := bif Nat.blt k 952 then bif Nat.blt k 928 then bif Nat.blt k 920 then bif Nat.blt k 912 then lB0 else lB1 else lB2 else bif Nat.blt k 944 then bif Nat.blt k 936 then lB3 else lB4 else lB5 else bif Nat.blt k 976 then bif Nat.blt k 968 then bif Nat.blt k 960 then lB6 else lB7 else lB8 else bif Nat.blt k 992 then bif Nat.blt k 984 then lB9 else lB10 else lB11
def lM0 : List (Int × Int) := [((-2147483648), 2147483647), (0, 5000), ((-2147483648), 2147483647), (0, 5000), ((-2147483648), 2147483647), ((-2147483648), 2147483647), ((-2147483648), 2147483647), ((-2147483648), 2147483647), (0, 5010), ((-2147483648), 2147483647), ((-2147483648), 2147483647), ((-2147483648), 2147483647), ((-2147483648), 2147483647), ((-2147483648), 2147483647), ((-2147483648), 2147483647), (0, 300), (0, 16), ((-2147483648), 2147483647), (0, 8), (0, 24), ((-2147483648), 2147483647), ((-2147483648), 2147483647), ((-2147483648), 2147483647), (0, 24)]
def lM1 : List (Int × Int) := [((-2147483648), 2147483647), ((-2147483648), 2147483647), ((-2147483648), 2147483647), ((-2147483648), 2147483647), ((-2147483648), 2147483647), ((-2147483648), 2147483647), (0, 64), ((-2147483648), 2147483647), (0, 12), ((-2147483648), 2147483647), ((-2147483648), 2147483647), ((-2147483648), 2147483647), ((-2147483648), 2147483647), ((-2147483648), 2147483647), ((-2147483648), 2147483647), ((-2147483648), 2147483647), ((-2147483648), 2147483647), (0, 6), ((-2147483648), 2147483647), ((-2147483648), 2147483647), ((-2147483648), 2147483647), ((-2147483648), 2147483647), ((-2147483648), 2147483647), (0, 8)]
def lM2 : List (Int × Int) := [((-2147483648), 2147483647), (0, 12), ((-2147483648), 2147483647), (0, 200), ((-2147483648), 2147483647), ((-2147483648), 2147483647), ((-2147483648), 2147483647), (0, 20), ((-2147483648), 2147483647), ((-2147483648), 2147483647), ((-2147483648), 2147483647), ((-2147483648), 2147483647), ((-1), 23), (0, 5001), (0, 9), (0, 5000), (0, 12), (0, 1), (0, 5010), ((-2147483648), 2147483647), ((-2147483648), 2147483647), (0, 2600), (0, 20), (0, 2600)]
def lM3 : List (Int × Int) := [(0, 2600), (0, 5), (0, 2600), (0, 1), (0, 1), (0, 1), ((-2), 5010), (0, 1), (0, 1), (0, 5010), ((-2147483648), 2147483647), ((-2147483648), 2147483647), ((-2147483648), 2147483647), ((-2147483648), 2147483647), ((-2147483648), 2147483647), ((-2147483648), 2147483647), ((-2147483648), 2147483647), ((-2147483648), 2147483647), ((-2147483648), 2147483647), ((-2147483648), 2147483647), ((-2147483648), 2147483647), (0, 1700), (0, 1700), ((-2147483648), 2147483647)]
def lM4 : List (Int × Int) := [((-2147483648), 2147483647), ((-2147483648), 2147483647), (0, 1700), (0, 2600), (0, 2), (0, 5010), (0, 2600), ((-1), 2600), (0, 4), (0, 5000), (0, 9), ((-2147483648), 2147483647), (0, 2600), ((-2147483648), 2147483647), (0, 15), ((-2147483648), 2147483647), (0, 6), ((-1), 6411), ((-2147483648), 2147483647), ((-1), 15), ((-1), 15), (0, 480), ((-2147483648), 2147483647), ((-2147483648), 2147483647)]
def lM5 : List (Int × Int) := [((-2147483648), 2147483647), ((-2147483648), 2147483647), ((-2147483648), 2147483647), ((-2147483648), 2147483647), ((-2147483648), 2147483647), (0, 192), ((-2147483648), 2147483647), ((-2147483648), 2147483647), (0, 11), ((-1), 23), (0, 24), ((-2147483648), 2147483647), ((-2147483648), 2147483647), ((-2147483648), 2147483647), ((-2147483648), 2147483647), ((-2147483648), 2147483647), ((-2147483648), 2147483647), ((-2147483648), 2147483647), ((-2147483648), 2147483647), ((-2147483648), 2147483647), ((-2147483648), 2147483647), ((-2147483648), 2147483647), (0, 4), ((-2147483648), 2147483647)]
def lM6 : List (Int × Int) := [(0, 2600), ((-2147483648), 2147483647), (0, 2600), (0, 5), ((-2147483648), 2147483647), ((-2147483648), 2147483647), (0, 5000), (0, 8), ((-2147483648), 2147483647), ((-2), 15), ((-2147483648), 2147483647), ((-2147483648), 2147483647), (0, 2000), (0, 1), ((-1), 23), ((-2147483648), 2147483647), (0, 64), (0, 300), (0, 1), ((-2147483648), 2147483647), (0, 50), ((-1), 23)]
def lhM (j : Nat) : Int × Int := bif Nat.blt j 96 then bif Nat.blt j 48 then bif Nat.blt j 24 then lM0.getD (j - 0) fullR else lM1.getD (j - 24) fullR else bif Nat.blt j 72 then lM2.getD (j - 48) fullR else lM3.getD (j - 72) fullR else bif Nat.blt j 144 then bif Nat.blt j 120 then lM4.getD (j - 96) fullR else lM5.getD (j - 120) fullR else lM6.getD (j - 144) fullR
def clR : List (Int × Int) := [(0, 11), (0, 1), ((-2), 23), ((-1), 1666), ((-2147483648), 2147483647), ((-2147483648), 2147483647), ((-2), 23)]
def ruR : List (Int × Int) := [(0, 3), ((-1), 11), ((-1), 23), ((-1), 15), (0, 5), (0, 6), (0, 8), (0, 200000)]
def lhC (l : List (Nat × List (Int × Int))) (k j : Nat) : Int × Int := match lkp l k with
  | some [r] => r
  | some rs => rs.getD j fullR
  | none => fullR
def lhA (k j : Nat) : Int × Int := bif Nat.blt k 904 then lhC lhL k j else bif Nat.beq k 904 then lhM j else lhC (lBs k) k j
def lh (k j : Nat) : Int × Int := bif Nat.blt k 196 then lhA k j else bif Nat.blt k 220 then (-1, 23) else bif Nat.blt k 248 then lhA k j else bif Nat.blt k 272 then ruR.getD j fullR else bif Nat.blt k 276 then lhA k j else bif Nat.blt k 876 then clR.getD j fullR else lhA k j
def okR (r : Int × Int) : Bool := decide (-2147483648 ≤ r.1) && decide (r.2 ≤ 2147483647)
theorem okR_D {l : List (Int × Int)} {j : Nat} (h : l.all okR = true) : okR (l.getD j fullR) = true := by
  rw [List.getD_eq_getElem?_getD]
  cases hj : l[j]? with
  | none => rfl
  | some r => exact List.all_eq_true.mp h r (List.mem_of_getElem? hj)
theorem lhC_ok {l : List (Nat × List (Int × Int))} (hall : l.all (fun q => q.2.all okR) = true) {k j : Nat} : okR (lhC l k j) = true := by
  unfold lhC
  cases h : lkp l k with
  | none => rfl
  | some rs =>
    have h1 := List.all_eq_true.mp hall _ (lkp_mem h)
    match rs, h1 with
    | [], _ => rfl
    | [r], h1 => simpa using h1
    | a :: b :: t, h1 => exact okR_D h1
theorem lBs_ok {k : Nat} : (lBs k).all (fun q => q.2.all okR) = true := by
  unfold lBs
  cases Nat.blt k 952
  case true =>
    cases Nat.blt k 928
    case true =>
      cases Nat.blt k 920
      case true =>
        cases Nat.blt k 912
        case true =>
          exact (by decide +kernel : lB0.all (fun q => q.2.all okR) = true)
        case false =>
          exact (by decide +kernel : lB1.all (fun q => q.2.all okR) = true)
      case false =>
        exact (by decide +kernel : lB2.all (fun q => q.2.all okR) = true)
    case false =>
      cases Nat.blt k 944
      case true =>
        cases Nat.blt k 936
        case true =>
          exact (by decide +kernel : lB3.all (fun q => q.2.all okR) = true)
        case false =>
          exact (by decide +kernel : lB4.all (fun q => q.2.all okR) = true)
      case false =>
        exact (by decide +kernel : lB5.all (fun q => q.2.all okR) = true)
  case false =>
    cases Nat.blt k 976
    case true =>
      cases Nat.blt k 968
      case true =>
        cases Nat.blt k 960
        case true =>
          exact (by decide +kernel : lB6.all (fun q => q.2.all okR) = true)
        case false =>
          exact (by decide +kernel : lB7.all (fun q => q.2.all okR) = true)
      case false =>
        exact (by decide +kernel : lB8.all (fun q => q.2.all okR) = true)
    case false =>
      cases Nat.blt k 992
      case true =>
        cases Nat.blt k 984
        case true =>
          exact (by decide +kernel : lB9.all (fun q => q.2.all okR) = true)
        case false =>
          exact (by decide +kernel : lB10.all (fun q => q.2.all okR) = true)
      case false =>
        exact (by decide +kernel : lB11.all (fun q => q.2.all okR) = true)
set_option maxRecDepth 100000 in
theorem lhM_ok {j : Nat} : okR (lhM j) = true := by
  unfold lhM
  cases Nat.blt j 96
  case true =>
    cases Nat.blt j 48
    case true =>
      cases Nat.blt j 24
      case true =>
        exact okR_D (l := lM0) (j := j - 0) (by decide +kernel)
      case false =>
        exact okR_D (l := lM1) (j := j - 24) (by decide +kernel)
    case false =>
      cases Nat.blt j 72
      case true =>
        exact okR_D (l := lM2) (j := j - 48) (by decide +kernel)
      case false =>
        exact okR_D (l := lM3) (j := j - 72) (by decide +kernel)
  case false =>
    cases Nat.blt j 144
    case true =>
      cases Nat.blt j 120
      case true =>
        exact okR_D (l := lM4) (j := j - 96) (by decide +kernel)
      case false =>
        exact okR_D (l := lM5) (j := j - 120) (by decide +kernel)
    case false =>
      exact okR_D (l := lM6) (j := j - 144) (by decide +kernel)
theorem lhA_ok {k j : Nat} : okR (lhA k j) = true := by
  unfold lhA
  cases Nat.blt k 904
  case true => exact lhC_ok (by decide +kernel)
  cases Nat.beq k 904
  case true => exact lhM_ok
  exact lhC_ok lBs_ok
theorem lh_ok {k j : Nat} : -2147483648 ≤ (lh k j).1 ∧ (lh k j).2 ≤ 2147483647 := by
  have h : okR (lh k j) = true := by
    unfold lh
    cases Nat.blt k 196
    case true => exact lhA_ok
    cases Nat.blt k 220
    case true => rfl
    cases Nat.blt k 248
    case true => exact lhA_ok
    cases Nat.blt k 272
    case true => exact okR_D (by decide +kernel)
    cases Nat.blt k 276
    case true => exact lhA_ok
    cases Nat.blt k 876
    case true => exact okR_D (by decide +kernel)
    exact lhA_ok
  unfold okR at h
  rw [Bool.and_eq_true, decide_eq_true_eq, decide_eq_true_eq] at h
  exact h
def CI (S : sS) : Prop := ∀ k j, (lh k j).1 ≤ Xi S k j ∧ Xi S k j ≤ (lh k j).2
def tp (t : Nat) : Prop := t = 902 ∨ t = 903
def RI (S : sS) : Prop := (∀ k j a, rT k j = some a → S.2.2 k j = some a) ∧ (∀ q ∈ rRw, ∀ i, i < q.2.2 → S.2.2 q.1 i = some (q.2.1 + i)) ∧ (∃ t, S.2.2 0 8 = some t ∧ tp t) ∧ (∃ t, S.2.2 0 9 = some t ∧ tp t) ∧ (∃ t, S.2.2 20 1 = some t ∧ (t = 245 ∨ tp t)) ∧ (∃ t, S.2.2 876 4 = some t ∧ (t = 881 ∨ tp t)) ∧ (∃ i, S.2.2 899 4 = some (248 + i) ∧ i < 24)
def HI (S : sS) : Prop := RI S ∧ CI S
theorem HI.r {S : sS} (h : HI S) (k j a : Nat) (e : rT k j = some a) : S.2.2 k j = some a := h.1.1 k j a e
theorem HI.c {S : sS} (h : HI S) (k j : Nat) : (lh k j).1 ≤ Xi S k j ∧ Xi S k j ≤ (lh k j).2 := h.2 k j
theorem HI.rw {S : sS} (h : HI S) (k b n i : Nat) (hq : (k, b, n) ∈ rRw) (hi : i < n) : S.2.2 k i = some (b + i) := h.1.2.1 _ hq i hi
/-! what a write leaves -/
theorem Xi_same {S : sS} {k j : Nat} {z : Int} (h : rg z) : Xi (uI S k j (Int32.ofInt z)) k j = z := by
  have e : (uI S k j (Int32.ofInt z)).1 k j = Int32.ofInt z := by simp only [uI, va_up, upd, if_true]
  unfold Xi
  rw [e]
  exact toI h
theorem Xi_ne {S : sS} {k j k1 j1 : Nat} {v : Int32} (h : ¬ (k1 = k ∧ j1 = j)) : Xi (uI S k j v) k1 j1 = Xi S k1 j1 := by
  unfold Xi uI
  by_cases hk : k1 = k
  · subst hk
    have hj : j1 ≠ j := fun z => h ⟨rfl, z⟩
    simp [va_up, upd, hj]
  · simp [va_up, hk]
theorem CI_w {S : sS} {k j : Nat} {z : Int} (h : CI S) (h1 : (lh k j).1 ≤ z) (h2 : z ≤ (lh k j).2) : CI (uI S k j (Int32.ofInt z)) := by
  intro a b
  by_cases e : a = k ∧ b = j
  · obtain ⟨rfl, rfl⟩ := e
    have o := lh_ok (k := a) (j := b)
    rw [Xi_same ⟨by omega, by omega⟩]
    exact ⟨h1, h2⟩
  · rw [Xi_ne e]; exact h a b
theorem CI_any {S : sS} {k j : Nat} {v : Int32} (h : CI S) (e : lh k j = fullR) : CI (uI S k j v) := by
  intro a b
  by_cases e1 : a = k ∧ b = j
  · obtain ⟨rfl, rfl⟩ := e1
    rw [e]
    exact ⟨Xi_rg.1, Int.le_of_lt_add_one Xi_rg.2⟩
  · rw [Xi_ne e1]; exact h a b
theorem HI_w {S : sS} {k j : Nat} {z : Int} (h : HI S) (h1 : (lh k j).1 ≤ z) (h2 : z ≤ (lh k j).2) : HI (uI S k j (Int32.ofInt z)) := ⟨h.1, CI_w h.2 h1 h2⟩
theorem HI_any {S : sS} {k j : Nat} {v : Int32} (h : HI S) (e : lh k j = fullR) : HI (uI S k j v) := ⟨h.1, CI_any h.2 e⟩
theorem HI_J {S : sS} {k j : Nat} {v : Int64} (h : HI S) : HI (uJ S k j v) := ⟨h.1, h.2⟩
/-! frames: what may be changed, as rectangles of cells and places -/
abbrev rec : Type := Nat × Nat × Nat × Nat
def inR (r : rec) (k j : Nat) : Bool := Nat.ble r.1 k && (Nat.blt k r.2.1 && (Nat.ble r.2.2.1 j && Nat.blt j r.2.2.2))
def mdf (l : List rec) (k j : Nat) : Bool := l.any (fun r => inR r k j)
def FR (l : List rec) (S S1 : sS) : Prop := ∀ k j, mdf l k j = false → S1.1 k j = S.1 k j ∧ S1.2.1 k j = S.2.1 k j ∧ S1.2.2 k j = S.2.2 k j
theorem FR.rf {l : List rec} {S : sS} : FR l S S := fun _ _ _ => ⟨rfl, rfl, rfl⟩
def eqr (a b : rec) : Bool := Nat.beq a.1 b.1 && (Nat.beq a.2.1 b.2.1 && (Nat.beq a.2.2.1 b.2.2.1 && Nat.beq a.2.2.2 b.2.2.2))
theorem eqr_ok {a b : rec} (h : eqr a b = true) : a = b := by
  unfold eqr at h
  rw [Bool.and_eq_true, Bool.and_eq_true, Bool.and_eq_true] at h
  exact Prod.ext (Nat.eq_of_beq_eq_true h.1) (Prod.ext (Nat.eq_of_beq_eq_true h.2.1) (Prod.ext (Nat.eq_of_beq_eq_true h.2.2.1) (Nat.eq_of_beq_eq_true h.2.2.2)))
def sub (l m : List rec) : Bool := l.all (fun r => m.any (fun s => eqr r s))
theorem mdf_sub {l m : List rec} (h : sub l m = true) {k j : Nat} (e : mdf m k j = false) : mdf l k j = false := by
  cases hl : mdf l k j with
  | false => rfl
  | true =>
    obtain ⟨r, hr, h1⟩ := List.any_eq_true.mp hl
    obtain ⟨s, hs, h2⟩ := List.any_eq_true.mp (List.all_eq_true.mp h r hr)
    have e2 := eqr_ok h2
    subst e2
    have : mdf m k j = true := List.any_eq_true.mpr ⟨r, hs, h1⟩
    rw [e] at this; cases this
theorem FR.tr {l m : List rec} {S S1 S2 : sS} (h : FR m S S1) (h2 : FR l S1 S2) (hs : sub l m = true) : FR m S S2 := fun k j e => by
  obtain ⟨a, b, c⟩ := h k j e
  obtain ⟨x, y, z⟩ := h2 k j (mdf_sub hs e)
  exact ⟨x.trans a, y.trans b, z.trans c⟩
theorem FR.up {l m : List rec} {S S1 : sS} (h : FR l S S1) (hs : sub l m = true) : FR m S S1 := fun k j e => h k j (mdf_sub hs e)
theorem FR.wI {m : List rec} {S S1 : sS} {k j : Nat} {v : Int32} (h : FR m S S1) (hm : mdf m k j = true) : FR m S (uI S1 k j v) := fun a b e => by
  obtain ⟨x, y, z⟩ := h a b e
  have hne : ¬ (a = k ∧ b = j) := fun q => by rw [q.1, q.2, hm] at e; cases e
  refine ⟨?_, y, z⟩
  have e2 : (uI S1 k j v).1 a b = S1.1 a b := by
    unfold uI
    by_cases hk : a = k
    · subst hk
      have hj : b ≠ j := fun z => hne ⟨rfl, z⟩
      simp [va_up, upd, hj]
    · simp [va_up, hk]
  exact e2.trans x
theorem FR.wJ {m : List rec} {S S1 : sS} {k j : Nat} {v : Int64} (h : FR m S S1) (hm : mdf m k j = true) : FR m S (uJ S1 k j v) := fun a b e => by
  obtain ⟨x, y, z⟩ := h a b e
  have hne : ¬ (a = k ∧ b = j) := fun q => by rw [q.1, q.2, hm] at e; cases e
  refine ⟨x, ?_, z⟩
  have e2 : (uJ S1 k j v).2.1 a b = S1.2.1 a b := by
    unfold uJ
    by_cases hk : a = k
    · subst hk
      have hj : b ≠ j := fun z => hne ⟨rfl, z⟩
      simp [va_up, vp_updL, hj]
    · simp [va_up, hk]
  exact e2.trans y
theorem FR.x {l : List rec} {S S1 : sS} (h : FR l S S1) (k j : Nat) (e : mdf l k j = false) : Xi S1 k j = Xi S k j := by
  unfold Xi; rw [(h k j e).1]
def SRC (S : sS) : Prop := ∃ t, S.2.2 876 4 = some t ∧ tp t
theorem SRC_fr {l : List rec} {S S1 : sS} (h : FR l S S1) (e : mdf l 876 4 = false) (hs : SRC S) : SRC S1 := by
  obtain ⟨t, h1, h2⟩ := hs
  exact ⟨t, by rw [(h 876 4 e).2.2]; exact h1, h2⟩
theorem mdf_i {l : List rec} {r : rec} {k j : Nat} (hr : r ∈ l) (h : inR r k j = true) : mdf l k j = true := List.any_eq_true.mpr ⟨r, hr, h⟩
theorem inR_i {a b c d k j : Nat} (h1 : a ≤ k) (h2 : k < b) (h3 : c ≤ j) (h4 : j < d) : inR (a, b, c, d) k j = true := by
  unfold inR
  simp only [Bool.and_eq_true]
  exact ⟨Nat.ble_eq_true_of_le h1, Nat.ble_eq_true_of_le h2, Nat.ble_eq_true_of_le h3, Nat.ble_eq_true_of_le h4⟩


