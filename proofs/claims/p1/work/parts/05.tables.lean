def zon (o : Nat) : String := match o with
  | 0 => RX0
  | 1 => RX1
  | 2 => RX2
  | 3 => RX3
  | 4 => RX4
  | 5 => RX5
  | 6 => RX6
  | 7 => RX7
  | 8 => RX8
  | 9 => RX9
  | 10 => RX10
  | 11 => RX11
  | 12 => RX12
  | 13 => RX13
  | 14 => RX14
  | 15 => "CoinScriptsLaw"
  | 16 => "java/lang/Math"
  | _ => "java/util/Arrays"
def zMT_0 : List (Nat × Nat × Nat × Nat × Nat) := [(0, 1, 20, 2142, 2),
  (0, 0, 0, 5140, 1),
  (0, 1, 24, 5163, 1),
  (0, 0, 0, 5168, 2),
  (0, 4, 101, 5172, 1),
  (0, 3, 74, 5176, 1),
  (0, 2, 48, 5185, 2),
  (0, 2, 48, 5195, 3),
  (0, 3, 74, 5205, 1),
  (0, 2, 49, 5209, 4),
  (0, 1, 26, 5217, 0),
  (0, 3, 75, 5231, 1),
  (0, 0, 0, 6000, 1),
  (0, 3, 75, 6016, 1),
  (0, 2, 50, 6020, 1),
  (0, 2, 50, 6027, 2),
  (0, 1, 26, 5180, 1),
  (0, 1, 26, 5191, 1),
  (0, 1, 26, 6009, 1),
  (1, 1, 20, 1188, 1),
  (1, 1, 25, 3051, 2),
  (1, 0, 0, 3054, 4),
  (1, 0, 0, 3059, 3),
  (1, 2, 49, 3047, 2),
  (1, 2, 49, 4183, 3),
  (1, 3, 75, 4179, 1),
  (1, 1, 25, 3063, 3),
  (1, 0, 0, 4222, 0),
  (1, 2, 41, 6059, 0),
  (2, 1, 20, 1090, 1),
  (2, 4, 96, 3226, 2),
  (2, 3, 74, 3230, 0),
  (2, 1, 22, 3234, 1),
  (2, 0, 0, 4002, 1),
  (2, 0, 0, 4006, 1),
  (2, 0, 0, 4011, 0),
  (2, 1, 22, 4020, 1),
  (2, 1, 26, 4033, 0),
  (2, 2, 51, 4038, 0),
  (2, 1, 26, 4043, 2),
  (2, 1, 21, 4048, 0),
  (2, 0, 0, 3238, 2),
  (3, 2, 41, 2034, 1),
  (3, 0, 0, 4148, 1),
  (3, 1, 22, 4144, 1),
  (3, 4, 99, 3033, 2),
  (3, 3, 73, 3039, 2),
  (3, 1, 20, 6136, 0),
  (3, 1, 20, 6120, 2),
  (3, 5, 124, 4128, 2),
  (3, 1, 22, 4214, 1),
  (3, 2, 45, 4132, 1),
  (3, 1, 21, 4151, 3),
  (3, 2, 45, 4155, 1),
  (3, 4, 99, 4175, 1),
  (3, 3, 73, 4194, 2),
  (3, 4, 99, 4198, 1),
  (3, 2, 47, 4202, 1),
  (3, 1, 23, 4206, 2),
  (3, 3, 73, 4218, 1)]
def zMT_1 : List (Nat × Nat × Nat × Nat × Nat) := [(3, 4, 96, 6051, 2),
  (3, 4, 96, 6078, 1),
  (3, 3, 73, 6055, 1),
  (3, 1, 22, 6086, 0),
  (3, 1, 22, 6098, 1),
  (4, 2, 42, 2094, 1),
  (4, 2, 51, 5048, 4),
  (4, 1, 26, 5066, 2),
  (4, 1, 26, 5057, 2),
  (4, 5, 122, 5070, 0),
  (4, 0, 0, 6043, 0),
  (4, 0, 0, 6047, 0),
  (4, 0, 0, 5083, 1),
  (4, 1, 21, 5079, 1),
  (4, 1, 21, 5099, 1),
  (4, 0, 0, 5091, 1),
  (4, 0, 0, 5111, 2),
  (4, 3, 67, 5075, 0),
  (4, 2, 42, 5095, 4),
  (4, 1, 22, 5107, 1),
  (4, 2, 42, 5115, 0),
  (4, 1, 22, 5119, 0),
  (4, 4, 88, 5123, 0),
  (4, 3, 67, 5132, 0),
  (4, 0, 0, 5136, 1),
  (4, 4, 92, 5146, 0),
  (4, 3, 67, 6035, 1),
  (4, 3, 67, 5150, 1),
  (5, 1, 20, 1035, 0),
  (5, 0, 0, 4028, 4),
  (5, 1, 26, 4024, 1),
  (5, 0, 0, 4052, 1),
  (5, 0, 0, 4064, 1),
  (5, 0, 0, 4076, 1),
  (5, 0, 0, 4101, 3),
  (5, 0, 0, 4072, 3),
  (5, 0, 0, 4060, 3),
  (5, 1, 26, 5006, 2),
  (5, 2, 50, 6004, 3),
  (5, 1, 21, 5158, 1),
  (5, 1, 21, 6031, 1),
  (5, 2, 48, 5235, 2),
  (5, 1, 21, 5227, 4),
  (5, 1, 26, 5213, 2),
  (6, 1, 20, 3067, 4),
  (6, 0, 0, 3043, 0),
  (7, 1, 20, 3183, 5),
  (8, 1, 20, 1133, 0),
  (8, 4, 95, 3101, 2),
  (8, 2, 48, 3148, 0),
  (8, 0, 0, 3105, 3),
  (8, 3, 69, 3109, 0),
  (8, 1, 23, 3144, 4),
  (8, 2, 46, 3114, 3),
  (8, 1, 23, 3118, 1),
  (8, 0, 0, 3128, 1),
  (8, 1, 21, 3140, 1),
  (8, 0, 0, 3122, 0),
  (8, 1, 23, 3132, 0),
  (8, 0, 0, 3136, 3)]
def zMT_2 : List (Nat × Nat × Nat × Nat × Nat) := [(9, 2, 41, 1181, 2),
  (9, 5, 131, 4056, 1),
  (9, 0, 0, 4136, 0),
  (9, 0, 0, 4140, 1),
  (9, 1, 20, 5044, 1),
  (9, 0, 0, 4159, 0),
  (9, 0, 0, 4163, 1),
  (9, 0, 0, 4190, 0),
  (9, 3, 72, 6065, 2),
  (9, 0, 0, 4171, 0),
  (9, 0, 0, 4167, 1),
  (9, 0, 0, 4210, 1),
  (9, 1, 24, 4068, 0),
  (9, 2, 43, 4080, 0),
  (9, 1, 21, 4084, 1),
  (9, 4, 107, 4088, 1),
  (9, 3, 82, 4092, 3),
  (9, 1, 25, 4096, 3),
  (9, 2, 50, 4105, 4),
  (9, 2, 43, 4112, 0),
  (9, 3, 82, 4116, 1),
  (9, 1, 25, 4120, 0),
  (9, 1, 25, 4124, 0),
  (9, 1, 20, 4226, 1),
  (9, 4, 96, 4236, 1),
  (9, 2, 50, 5002, 1),
  (9, 1, 21, 5038, 1),
  (9, 2, 48, 5012, 1),
  (9, 3, 73, 5017, 0),
  (10, 1, 20, 2100, 1),
  (10, 0, 0, 5052, 0),
  (10, 0, 0, 5062, 5),
  (10, 0, 0, 5103, 4),
  (10, 1, 21, 5127, 2),
  (10, 0, 0, 5087, 2),
  (10, 2, 45, 5154, 1),
  (11, 3, 64, 1027, 1),
  (11, 0, 0, 3021, 2),
  (11, 0, 0, 3025, 0),
  (11, 5, 123, 3029, 2),
  (11, 5, 119, 3097, 0),
  (11, 7, 169, 3218, 0),
  (11, 2, 43, 6082, 0),
  (11, 2, 44, 6094, 1),
  (11, 1, 22, 6102, 2),
  (11, 6, 100, 6148, 3),
  (11, 1, 22, 6107, 2),
  (11, 4, 99, 6111, 2),
  (11, 2, 44, 6116, 2),
  (11, 0, 0, 6124, 1),
  (11, 1, 21, 6128, 2),
  (11, 2, 42, 6132, 1),
  (11, 5, 120, 3222, 0),
  (11, 6, 144, 4232, 0),
  (11, 0, 0, 5029, 1),
  (11, 1, 22, 5023, 1),
  (11, 5, 120, 5033, 1),
  (11, 1, 20, 6039, 1),
  (12, 1, 20, 7083, 0),
  (12, 0, 0, 10092, 1)]
def zMT_3 : List (Nat × Nat × Nat × Nat × Nat) := [(12, 0, 0, 10087, 2),
  (12, 0, 0, 10069, 0),
  (12, 1, 22, 10084, 2),
  (12, 0, 0, 10100, 3),
  (12, 1, 25, 10096, 2),
  (12, 0, 0, 10109, 1),
  (12, 1, 25, 10104, 2),
  (12, 0, 0, 10117, 0),
  (12, 0, 0, 10125, 2),
  (12, 1, 23, 10222, 1),
  (12, 1, 23, 10133, 1),
  (12, 0, 0, 10129, 1),
  (12, 0, 0, 10230, 2),
  (12, 0, 0, 10137, 4),
  (12, 1, 23, 10141, 1),
  (12, 1, 25, 11010, 2),
  (12, 0, 0, 11023, 1),
  (12, 1, 21, 11019, 1),
  (12, 1, 21, 11027, 2),
  (12, 0, 0, 10192, 2),
  (12, 1, 24, 10188, 1),
  (12, 0, 0, 10184, 1),
  (12, 0, 0, 10157, 1),
  (12, 0, 0, 10204, 2),
  (12, 1, 22, 10208, 2),
  (12, 2, 44, 10200, 1),
  (12, 0, 0, 10218, 2),
  (12, 2, 44, 10212, 3),
  (12, 1, 22, 10234, 2),
  (12, 2, 45, 10226, 1),
  (12, 0, 0, 11002, 2),
  (12, 2, 48, 11006, 4),
  (12, 4, 101, 10238, 1),
  (12, 3, 74, 11015, 4),
  (12, 5, 126, 10196, 1),
  (12, 1, 21, 10153, 1),
  (12, 1, 21, 10165, 1),
  (12, 0, 0, 10161, 1),
  (12, 0, 0, 10169, 3),
  (12, 3, 70, 10121, 1),
  (12, 2, 45, 10145, 1),
  (12, 2, 43, 10149, 0),
  (12, 2, 43, 10177, 2),
  (12, 6, 147, 10181, 2),
  (12, 7, 173, 10173, 0),
  (12, 8, 196, 10113, 2),
  (12, 0, 0, 11031, 0),
  (12, 0, 0, 11035, 0),
  (13, 1, 20, 6222, 0),
  (13, 0, 0, 9096, 1),
  (13, 0, 0, 9093, 0),
  (13, 1, 21, 9089, 2),
  (13, 0, 0, 9121, 1),
  (13, 0, 0, 9129, 1),
  (13, 1, 27, 9125, 1),
  (13, 0, 0, 9065, 0),
  (13, 0, 0, 9113, 3),
  (13, 0, 0, 9081, 2),
  (13, 1, 22, 9077, 0),
  (13, 2, 42, 9100, 0)]
def zMT_4 : List (Nat × Nat × Nat × Nat × Nat) := [(13, 2, 42, 9108, 0),
  (13, 1, 22, 9085, 1),
  (13, 3, 69, 9073, 1),
  (13, 0, 0, 9117, 0),
  (13, 4, 97, 9069, 0),
  (14, 2, 40, 6214, 1),
  (14, 0, 0, 9019, 0),
  (14, 0, 0, 9023, 2),
  (14, 0, 0, 9027, 0),
  (14, 0, 0, 9045, 1),
  (14, 0, 0, 9049, 3),
  (14, 0, 0, 9041, 0),
  (14, 1, 25, 9037, 2),
  (14, 0, 0, 9053, 1),
  (14, 0, 0, 9057, 4),
  (14, 2, 51, 9031, 2),
  (14, 5, 118, 9061, 0),
  (14, 0, 0, 10076, 1),
  (14, 3, 73, 10073, 1),
  (14, 2, 49, 10080, 1),
  (14, 0, 0, 9153, 2),
  (14, 1, 22, 9149, 0),
  (14, 2, 42, 9145, 1),
  (14, 0, 0, 9161, 1),
  (14, 3, 70, 9141, 1),
  (14, 4, 96, 9137, 0),
  (14, 0, 0, 9186, 2),
  (14, 0, 0, 9182, 3),
  (14, 0, 0, 9190, 3),
  (14, 0, 0, 9203, 3),
  (14, 0, 0, 9217, 1),
  (14, 1, 25, 9198, 1),
  (14, 0, 0, 9213, 4),
  (14, 1, 27, 9207, 2),
  (14, 2, 52, 9194, 1),
  (14, 1, 24, 9221, 2),
  (14, 1, 25, 9225, 1),
  (14, 3, 75, 9178, 0),
  (14, 1, 24, 9229, 0),
  (14, 1, 27, 10001, 2),
  (14, 2, 52, 9237, 0),
  (14, 0, 0, 10004, 2),
  (14, 3, 76, 9233, 0),
  (14, 0, 0, 10013, 1),
  (14, 1, 23, 10009, 0),
  (14, 0, 0, 10017, 0),
  (14, 1, 25, 10021, 0),
  (14, 1, 24, 10025, 0),
  (14, 3, 76, 10029, 0),
  (14, 4, 102, 9174, 0),
  (14, 0, 0, 10053, 4),
  (14, 1, 26, 10049, 2),
  (14, 0, 0, 10057, 1),
  (14, 3, 76, 10065, 2),
  (14, 5, 119, 10041, 1),
  (14, 0, 0, 10045, 0),
  (14, 0, 0, 10061, 0),
  (14, 9, 220, 10037, 5),
  (14, 10, 247, 10033, 0),
  (14, 1, 27, 11043, 1)]
def zMT_5 : List (Nat × Nat × Nat × Nat × Nat) := [(14, 2, 52, 11039, 0),
  (14, 1, 25, 11047, 0),
  (14, 11, 270, 9133, 0),
  (14, 0, 0, 11051, 0),
  (14, 0, 0, 11055, 1),
  (14, 1, 21, 11059, 2),
  (14, 0, 0, 11063, 3),
  (14, 0, 0, 11067, 2),
  (14, 2, 51, 11071, 2),
  (14, 1, 21, 11075, 2),
  (14, 0, 0, 11079, 1),
  (14, 0, 0, 11083, 2),
  (14, 1, 23, 11087, 1),
  (15, 0, 0, 6140, 2),
  (16, 0, 0, 5198, 2),
  (16, 0, 0, 6090, 2),
  (16, 0, 0, 5201, 2),
  (16, 0, 0, 2031, 2),
  (16, 0, 0, 5220, 2),
  (16, 0, 0, 2028, 2),
  (16, 0, 0, 5223, 2),
  (17, 0, 0, 2217, 2),
  (17, 1, 26, 3153, 2),
  (17, 1, 26, 3175, 2),
  (17, 1, 26, 3167, 2),
  (17, 0, 0, 6074, 2),
  (17, 2, 50, 6068, 3),
  (17, 1, 26, 6071, 3),
  (15, 14, 588, 0, 1)]
def zMT : List (Nat × Nat × Nat × Nat × Nat) := zMT_0 ++ zMT_1 ++ zMT_2 ++ zMT_3 ++ zMT_4 ++ zMT_5
def ztc (c : Nat) : List Cond := match c with
  | 0 => k2_sels lw_privs
  | 1 => tables_1_1
  | 2 => tables_1_2
  | 3 => tables_1_3
  | 4 => tables_1_4
  | 5 => tables_1_5
  | 6 => tables_1_6
  | 7 => tables_1_7
  | 8 => tables_1_8
  | 9 => tables_1_9
  | 10 => tables_1_10
  | 11 => tables_1_11
  | _ => []
def zwat (i : Nat) : Option Cond := (ztc (i / 1000))[i % 1000]?
def zmr (q : Nat) : Nat × Nat × Nat × Nat × Nat := zMT.getD q (0, 0, 0, 0, 0)
abbrev zow (q : Nat) : Nat := (zmr q).1
abbrev zfr (q : Nat) : Nat := (zmr q).2.1
abbrev zlo (q : Nat) : Nat := (zmr q).2.2.1
abbrev znp (q : Nat) : Nat := (zmr q).2.2.2.2
/-- a method by the word of its code -/
def zm (q : Nat) : MethodName × ByteArray × Nat × Option FieldType := if q = 328 then (x, code, maxLocals, ret) else match zwat (zmr q).2.2.2.1 with
  | some (.code y b n r) => (y, b, n, r)
  | _ => (x, code, maxLocals, ret)
abbrev zy (q : Nat) : MethodName := (zm q).1
abbrev zby (q : Nat) : ByteArray := (zm q).2.1
abbrev zml (q : Nat) : Nat := (zm q).2.2.1
abbrev zrt (q : Nat) : Option FieldType := (zm q).2.2.2
def zo0_0 : List zO := [zldA 0, zoini, zldA 0, zcI (3), znewa 16, zput 0 2 2, zldA 0, zldA 1, zput 0 0 2, zldA 0, zldA 2, zput 0 1 2, zret 0]
def zt0 (b : Nat) : List zO := match b with
  | 0 => zo0_0
  | _ => []
def zo1_0 : List zO := [ztak, zldI 1, zald 0, zstI 2, zldI 2, zcI (255), zic 5 1, zcI (3), zgo 3]
def zo1_1 : List zO := [zldI 2, zcI (15), zic 5 2, zcI (2), zgo 3]
def zo1_2 : List zO := [zcI (1), zfal 3]
def zo1_3 : List zO := [zret 1]
def zt1 (b : Nat) : List zO := match b with
  | 0 => zo1_0
  | 1 => zo1_1
  | 2 => zo1_2
  | 3 => zo1_3
  | _ => []
def zo2_0 : List zO := [ztak, zldI 1, zald 0, zstI 2, zldA 0, zldI 1, zcal 1 2 1 0, zcI (1), zbI 1, zstI 3, zfal 1]
def zo2_1 : List zO := [zldI 3, zif 2 3, zldA 0, zldA 0, zget 0 2 2, zldI 3, zald 0, zldI 2, zcI (15), zbI 3, zcal 3 3 1 0, zif 1 2, zcI (0), zret 2]
def zo2_2 : List zO := [zldI 2, zcI (4), zbI 6, zstI 2, zinc 3 (-1), zgo 1]
def zo2_3 : List zO := [zcI (1), zret 2]
def zt2 (b : Nat) : List zO := match b with
  | 0 => zo2_0
  | 1 => zo2_1
  | 2 => zo2_2
  | 3 => zo2_3
  | _ => []
def zo3_0 : List zO := [zldA 0, zget 0 1 2, zget 10 1 2, zldI 1, zald 3, zstI 3, zldI 2, zcI (6), zic 4 4, zldI 2, zcI (6), zic 0 1, zldI 3, zldI 2, zcI (1), zbI 1, zic 1 2, zfal 1]
def zo3_1 : List zO := [zcI (1), zgo 3]
def zo3_2 : List zO := [zcI (0), zfal 3]
def zo3_3 : List zO := [zret 2]
def zo3_4 : List zO := [zldI 3, zcI (4), zic 0 5, zcI (0), zret 2]
def zo3_5 : List zO := [zldA 0, zget 0 0 2, zget 5 0 2, zldA 0, zget 0 1 2, zget 10 3 2, zldI 1, zald 0, zald 3, zstI 4, zldI 2, ztsw 18 (7) [6, 9, 12, 15]]
def zo3_6 : List zO := [zldI 4, zcI (4), zic 1 7, zcI (1), zgo 8]
def zo3_7 : List zO := [zcI (0), zfal 8]
def zo3_8 : List zO := [zret 2]
def zo3_9 : List zO := [zldI 4, zcI (5), zic 1 10, zcI (1), zgo 11]
def zo3_10 : List zO := [zcI (0), zfal 11]
def zo3_11 : List zO := [zret 2]
def zo3_12 : List zO := [zldI 4, zcI (6), zic 1 13, zcI (1), zgo 14]
def zo3_13 : List zO := [zcI (0), zfal 14]
def zo3_14 : List zO := [zret 2]
def zo3_15 : List zO := [zldI 4, zif 1 16, zcI (1), zgo 17]
def zo3_16 : List zO := [zcI (0), zfal 17]
def zo3_17 : List zO := [zret 2]
def zo3_18 : List zO := [zldI 4, zcI (2), zic 1 19, zcI (1), zgo 20]
def zo3_19 : List zO := [zcI (0), zfal 20]
def zo3_20 : List zO := [zret 2]
def zt3 (b : Nat) : List zO := match b with
  | 0 => zo3_0
  | 1 => zo3_1
  | 2 => zo3_2
  | 3 => zo3_3
  | 4 => zo3_4
  | 5 => zo3_5
  | 6 => zo3_6
  | 7 => zo3_7
  | 8 => zo3_8
  | 9 => zo3_9
  | 10 => zo3_10
  | 11 => zo3_11
  | 12 => zo3_12
  | 13 => zo3_13
  | 14 => zo3_14
  | 15 => zo3_15
  | 16 => zo3_16
  | 17 => zo3_17
  | 18 => zo3_18
  | 19 => zo3_19
  | 20 => zo3_20
  | _ => []
def zo4_0 : List zO := [zldI 1, zcI (10), zic 3 1, zldA 0, zldI 1, zcal 5 2 1 0, zret 1]
def zo4_1 : List zO := [zldI 1, zcI (16), zic 3 2, zldA 0, zldI 1, zcal 8 2 1 0, zret 1]
def zo4_2 : List zO := [zldI 1, zcI (16), zic 1 5, zldA 0, zget 0 1 2, zget 10 2 2, zldA 0, zget 0 2 2, zcI (0), zald 0, zald 1, zcL (1), zcmp, zif 1 3, zldA 0, zget 0 2 2, zcI (1), zald 0, zgo 4]
def zo4_3 : List zO := [zldA 0, zget 0 2 2, zcI (2), zald 0, zfal 4]
def zo4_4 : List zO := [zret 1]
def zo4_5 : List zO := [zldI 1, zcI (26), zic 3 6, zldA 0, zldI 1, zcal 11 2 1 0, zgo 7]
def zo4_6 : List zO := [zldA 0, zldI 1, zcal 13 2 1 0, zfal 7]
def zo4_7 : List zO := [zret 1]
def zt4 (b : Nat) : List zO := match b with
  | 0 => zo4_0
  | 1 => zo4_1
  | 2 => zo4_2
  | 3 => zo4_3
  | 4 => zo4_4
  | 5 => zo4_5
  | 6 => zo4_6
  | 7 => zo4_7
  | _ => []
def zo5_0 : List zO := [zldA 0, zget 0 1 2, zget 10 2 2, zldA 0, zget 0 2 2, zcI (0), zald 0, zald 1, zstL 2, zldA 0, zget 0 1 2, zget 10 2 2, zldA 0, zget 0 2 2, zcI (1), zald 0, zald 1, zstL 4, zldI 1, ztsw 17 (0) [1, 4, 7, 17, 17, 17, 17, 8, 11, 14]]
def zo5_1 : List zO := [zldL 2, zldL 2, zldL 4, zbL 0, zbL 5, zldL 4, zldL 2, zldL 4, zbL 0, zbL 5, zbL 3, zcL (0), zcmp, zif 3 2, zcI (-1), zgo 3]
def zo5_2 : List zO := [zldA 0, zldL 2, zldL 4, zbL 0, zcal 16 2 1 0, zfal 3]
def zo5_3 : List zO := [zret 1]
def zo5_4 : List zO := [zldL 2, zldL 4, zbL 5, zldL 2, zldL 2, zldL 4, zbL 1, zbL 5, zbL 3, zcL (0), zcmp, zif 3 5, zcI (-1), zgo 6]
def zo5_5 : List zO := [zldA 0, zldL 2, zldL 4, zbL 1, zcal 16 2 1 0, zfal 6]
def zo5_6 : List zO := [zret 1]
def zo5_7 : List zO := [zldA 0, zldL 2, zldL 4, zcal 6 3 1 0, zret 1]
def zo5_8 : List zO := [zldA 0, zldL 2, zldL 4, zcmp, zif 1 9, zcI (1), zgo 10]
def zo5_9 : List zO := [zcI (0), zfal 10]
def zo5_10 : List zO := [zcal 17 2 1 0, zret 1]
def zo5_11 : List zO := [zldA 0, zldL 2, zldL 4, zcmp, zif 3 12, zcI (1), zgo 13]
def zo5_12 : List zO := [zcI (0), zfal 13]
def zo5_13 : List zO := [zcal 17 2 1 0, zret 1]
def zo5_14 : List zO := [zldA 0, zldL 2, zldL 4, zcmp, zif 4 15, zcI (1), zgo 16]
def zo5_15 : List zO := [zcI (0), zfal 16]
def zo5_16 : List zO := [zcal 17 2 1 0, zret 1]
def zo5_17 : List zO := [zldA 0, zldI 1, zldL 2, zldL 4, zcal 7 4 1 0, zret 1]
def zt5 (b : Nat) : List zO := match b with
  | 0 => zo5_0
  | 1 => zo5_1
  | 2 => zo5_2
  | 3 => zo5_3
  | 4 => zo5_4
  | 5 => zo5_5
  | 6 => zo5_6
  | 7 => zo5_7
  | 8 => zo5_8
  | 9 => zo5_9
  | 10 => zo5_10
  | 11 => zo5_11
  | 12 => zo5_12
  | 13 => zo5_13
  | 14 => zo5_14
  | 15 => zo5_15
  | 16 => zo5_16
  | 17 => zo5_17
  | _ => []
def zo6_0 : List zO := [zldL 3, zcL (0), zcmp, zif 0 3, zldL 3, zcL (-1), zcmp, zif 1 1, zldL 1, zcL (-9223372036854775808), zcmp, zif 1 3, zgo 2]
def zo6_1 : List zO := [zldL 1, zldL 3, zbL 2, zldL 3, zbL 6, zldL 1, zcmp, zif 0 3, zfal 2]
def zo6_2 : List zO := [zcI (1), zgo 4]
def zo6_3 : List zO := [zcI (0), zfal 4]
def zo6_4 : List zO := [zstI 5, zldI 5, zif 0 5, zcI (-1), zgo 6]
def zo6_5 : List zO := [zldA 0, zldL 1, zldL 3, zbL 2, zcal 16 2 1 0, zfal 6]
def zo6_6 : List zO := [zret 1]
def zt6 (b : Nat) : List zO := match b with
  | 0 => zo6_0
  | 1 => zo6_1
  | 2 => zo6_2
  | 3 => zo6_3
  | 4 => zo6_4
  | 5 => zo6_5
  | 6 => zo6_6
  | _ => []
def zo7_0 : List zO := [zldL 4, zcL (0), zcmp, zif 1 1, zcI (-1), zret 1]
def zo7_1 : List zO := [zldI 1, zcI (3), zic 0 2, zldI 1, zcI (5), zic 1 3, zfal 2]
def zo7_2 : List zO := [zcI (1), zgo 4]
def zo7_3 : List zO := [zcI (0), zfal 4]
def zo7_4 : List zO := [zstI 6, zldI 6, zif 0 5, zldL 2, zcL (-9223372036854775808), zcmp, zif 1 5, zldL 4, zcL (-1), zcmp, zif 1 5, zcI (-1), zret 1]
def zo7_5 : List zO := [zldI 1, ztsw 9 (3) [6, 7, 8]]
def zo7_6 : List zO := [zldA 0, zldL 2, zldL 4, zcal 314 2 0 16, zcal 16 2 1 0, zret 1]
def zo7_7 : List zO := [zldA 0, zldL 2, zldL 4, zcal 316 2 0 16, zcal 16 2 1 0, zret 1]
def zo7_8 : List zO := [zldA 0, zldL 2, zldL 4, zbL 6, zcal 16 2 1 0, zret 1]
def zo7_9 : List zO := [zldA 0, zldL 2, zldL 4, zbL 7, zcal 16 2 1 0, zret 1]
def zt7 (b : Nat) : List zO := match b with
  | 0 => zo7_0
  | 1 => zo7_1
  | 2 => zo7_2
  | 3 => zo7_3
  | 4 => zo7_4
  | 5 => zo7_5
  | 6 => zo7_6
  | 7 => zo7_7
  | 8 => zo7_8
  | 9 => zo7_9
  | _ => []
def zo8_0 : List zO := [zldA 0, zget 0 1 2, zget 10 3 2, zldA 0, zget 0 2 2, zcI (0), zald 0, zald 0, zstI 2, zldA 0, zget 0 1 2, zget 10 4 2, zldA 0, zget 0 2 2, zcI (0), zald 0, zald 0, zstI 3, zldA 0, zget 0 2 2, zcI (1), zald 0, zstI 4, zldI 1, ztsw 11 (10) [1, 2, 3, 7, 8]]
def zo8_1 : List zO := [zldA 0, zldI 2, zldI 3, zldA 0, zget 0 1 2, zget 10 3 2, zldI 4, zald 0, zldA 0, zget 0 1 2, zget 10 4 2, zldI 4, zald 0, zcal 9 5 1 0, zret 1]
def zo8_2 : List zO := [zldA 0, zldI 3, zun 1, zcal 16 2 1 0, zret 1]
def zo8_3 : List zO := [zldA 0, zget 0 1 2, zget 10 2 2, zldI 4, zald 1, zstL 5, zldL 5, zcL (0), zcmp, zif 2 4, zldL 5, zldI 3, zun 1, zcmp, zif 2 5, zfal 4]
def zo8_4 : List zO := [zcI (-1), zgo 6]
def zo8_5 : List zO := [zldA 0, zldA 0, zget 0 0 2, zget 5 5 2, zldI 2, zldL 5, zun 2, zbI 0, zald 3, zcI (255), zbI 3, zun 1, zcal 16 2 1 0, zfal 6]
def zo8_6 : List zO := [zret 1]
def zo8_7 : List zO := [zldA 0, zcal 10 1 1 0, zret 1]
def zo8_8 : List zO := [zldA 0, zldA 0, zget 0 0 2, zldI 2, zldI 3, zldA 0, zget 0 1 2, zget 10 3 2, zldI 4, zald 0, zldA 0, zget 0 1 2, zget 10 4 2, zldI 4, zald 0, zcal 102 5 1 5, zif 1 9, zcI (1), zgo 10]
def zo8_9 : List zO := [zcI (0), zfal 10]
def zo8_10 : List zO := [zcal 17 2 1 0, zret 1]
def zo8_11 : List zO := [zldA 0, zldA 0, zget 0 0 2, zldI 2, zldI 3, zldA 0, zget 0 1 2, zget 10 3 2, zldI 4, zald 0, zldA 0, zget 0 1 2, zget 10 4 2, zldI 4, zald 0, zcal 102 5 1 5, zif 3 12, zcI (1), zgo 13]
def zo8_12 : List zO := [zcI (0), zfal 13]
def zo8_13 : List zO := [zcal 17 2 1 0, zret 1]
def zt8 (b : Nat) : List zO := match b with
  | 0 => zo8_0
  | 1 => zo8_1
  | 2 => zo8_2
  | 3 => zo8_3
  | 4 => zo8_4
  | 5 => zo8_5
  | 6 => zo8_6
  | 7 => zo8_7
  | 8 => zo8_8
  | 9 => zo8_9
  | 10 => zo8_10
  | 11 => zo8_11
  | 12 => zo8_12
  | 13 => zo8_13
  | _ => []
def zo9_0 : List zO := [zldI 2, zldI 4, zbI 0, zcI (64), zic 5 1, zcI (-1), zret 1]
def zo9_1 : List zO := [zldA 0, zget 0 0 2, zget 5 8 0, zstI 5, zldA 0, zget 0 0 2, zldI 1, zldI 2, zcal 103 3 1 5, zldA 0, zget 0 0 2, zldI 3, zldI 4, zcal 103 3 1 5, zldA 0, zget 0 1 2, zcI (1), zcL (0), zldI 5, zldI 2, zldI 4, zbI 0, zcal 152 5 1 10, zret 1]
def zt9 (b : Nat) : List zO := match b with
  | 0 => zo9_0
  | 1 => zo9_1
  | _ => []
def zo10_0 : List zO := [zldA 0, zget 0 1 2, zget 10 4 2, zldA 0, zget 0 2 2, zcI (2), zald 0, zald 0, zun 1, zstL 1, zldA 0, zget 0 1 2, zget 10 2 2, zldA 0, zget 0 2 2, zcI (0), zald 0, zald 1, zcL (0), zcal 318 2 0 16, zldL 1, zcal 320 2 0 16, zstL 3, zldA 0, zget 0 1 2, zget 10 2 2, zldA 0, zget 0 2 2, zcI (1), zald 0, zald 1, zcL (0), zcal 318 2 0 16, zldL 1, zldL 3, zbL 1, zcal 320 2 0 16, zstL 5, zldA 0, zget 0 1 2, zcI (1), zcL (0), zldA 0, zget 0 1 2, zget 10 3 2, zldA 0, zget 0 2 2, zcI (2), zald 0, zald 0, zldL 3, zun 2, zbI 0, zldL 5, zun 2, zcal 152 5 1 10, zret 1]
def zt10 (b : Nat) : List zO := match b with
  | 0 => zo10_0
  | _ => []
def zo11_0 : List zO := [zldA 0, zget 0 2 2, zcI (0), zald 0, zstI 2, zldA 0, zget 0 1 2, zget 10 3 2, zldI 2, zald 0, zstI 3, zldI 1, ztsw 14 (17) [1, 2, 3, 4, 5, 11, 12, 13]]
def zo11_1 : List zO := [zldA 0, zldA 0, zget 0 0 2, zldI 3, zldA 0, zget 0 1 2, zget 10 3 2, zldA 0, zget 0 2 2, zcI (1), zald 0, zald 0, zcal 101 3 1 5, zcal 17 2 1 0, zret 1]
def zo11_2 : List zO := [zldA 0, zldA 0, zldI 3, zcal 12 2 1 0, zun 1, zcal 16 2 1 0, zret 1]
def zo11_3 : List zO := [zldA 0, zldA 0, zget 0 0 2, zget 5 4 2, zldI 3, zald 1, zcal 16 2 1 0, zret 1]
def zo11_4 : List zO := [zldA 0, zldA 0, zget 0 0 2, zldI 3, zcI (4), zcL (0), zcal 98 4 1 5, zcal 18 2 1 0, zret 1]
def zo11_5 : List zO := [zldA 0, zget 0 1 2, zget 10 2 2, zldI 2, zald 1, zstL 4, zldL 4, zcL (0), zcmp, zif 2 6, zldL 4, zcL (127), zcmp, zif 5 7, zfal 6]
def zo11_6 : List zO := [zcI (1), zgo 8]
def zo11_7 : List zO := [zcI (0), zfal 8]
def zo11_8 : List zO := [zstI 6, zldI 6, zif 0 9, zcI (-1), zgo 10]
def zo11_9 : List zO := [zldA 0, zldA 0, zget 0 0 2, zldA 0, zget 0 1 2, zget 10 3 2, zldA 0, zget 0 2 2, zcI (1), zald 0, zald 0, zcI (6), zldL 4, zcal 98 4 1 5, zcal 18 2 1 0, zfal 10]
def zo11_10 : List zO := [zret 1]
def zo11_11 : List zO := [zldA 0, zldA 0, zget 0 0 2, zldA 0, zget 0 1 2, zget 10 2 2, zldI 2, zald 1, zcal 90 2 1 5, zcal 18 2 1 0, zret 1]
def zo11_12 : List zO := [zldA 0, zldA 0, zget 0 0 2, zcI (2), zldA 0, zget 0 1 2, zget 10 4 2, zldI 2, zald 0, zcL (0), zldA 0, zget 0 1 2, zget 10 3 2, zldI 2, zald 0, zcal 89 5 1 5, zcal 18 2 1 0, zret 1]
def zo11_13 : List zO := [zldA 0, zldA 0, zget 0 0 2, zget 5 4 2, zldI 3, zald 1, zcal 16 2 1 0, zret 1]
def zo11_14 : List zO := [zldA 0, zget 0 1 2, zcI (1), zcL (0), zldA 0, zget 0 0 2, zget 5 3 2, zldI 3, zald 0, zldA 0, zget 0 0 2, zget 5 1 2, zldI 3, zald 0, zcal 152 5 1 10, zret 1]
def zt11 (b : Nat) : List zO := match b with
  | 0 => zo11_0
  | 1 => zo11_1
  | 2 => zo11_2
  | 3 => zo11_3
  | 4 => zo11_4
  | 5 => zo11_5
  | 6 => zo11_6
  | 7 => zo11_7
  | 8 => zo11_8
  | 9 => zo11_9
  | 10 => zo11_10
  | 11 => zo11_11
  | 12 => zo11_12
  | 13 => zo11_13
  | 14 => zo11_14
  | _ => []
def zo12_0 : List zO := [zldA 0, zget 0 0 2, zget 5 0 2, zldI 1, zald 3, ztsw 5 (0) [4, 5, 5, 5, 3, 2, 1]]
def zo12_1 : List zO := [zcI (0), zret 1]
def zo12_2 : List zO := [zcI (1), zret 1]
def zo12_3 : List zO := [zcI (2), zret 1]
def zo12_4 : List zO := [zcI (3), zret 1]
def zo12_5 : List zO := [zcI (4), zret 1]
def zt12 (b : Nat) : List zO := match b with
  | 0 => zo12_0
  | 1 => zo12_1
  | 2 => zo12_2
  | 3 => zo12_3
  | 4 => zo12_4
  | 5 => zo12_5
  | _ => []
def zo13_0 : List zO := [zldA 0, zget 0 1 2, zget 10 3 2, zldA 0, zget 0 2 2, zcI (0), zald 0, zald 0, zstI 2, zldA 0, zget 0 0 2, zget 5 1 2, zldI 2, zald 0, zstI 3, zldI 1, ztsw 14 (26) [1, 4, 7, 8, 11]]
def zo13_1 : List zO := [zldI 3, zif 1 2, zcI (-1), zgo 3]
def zo13_2 : List zO := [zldA 0, zldI 2, zcI (1), zbI 0, zcal 18 2 1 0, zfal 3]
def zo13_3 : List zO := [zret 1]
def zo13_4 : List zO := [zldI 3, zif 1 5, zcI (-1), zgo 6]
def zo13_5 : List zO := [zldA 0, zldI 2, zcal 14 2 1 0, zfal 6]
def zo13_6 : List zO := [zret 1]
def zo13_7 : List zO := [zldA 0, zldI 2, zldA 0, zget 0 1 2, zget 10 3 2, zldA 0, zget 0 2 2, zcI (1), zald 0, zald 0, zcal 15 3 1 0, zret 1]
def zo13_8 : List zO := [zldA 0, zldI 3, zif 1 9, zcI (1), zgo 10]
def zo13_9 : List zO := [zcI (0), zfal 10]
def zo13_10 : List zO := [zcal 17 2 1 0, zret 1]
def zo13_11 : List zO := [zldI 3, zcI (2), zbI 8, zif 0 12, zcI (-1), zgo 13]
def zo13_12 : List zO := [zldA 0, zldA 0, zget 0 0 2, zldI 2, zcI (5), zcL (0), zcal 98 4 1 5, zcal 18 2 1 0, zfal 13]
def zo13_13 : List zO := [zret 1]
def zo13_14 : List zO := [zldA 0, zldA 0, zget 0 0 2, zldI 2, zcI (4), zcL (0), zcal 98 4 1 5, zcal 18 2 1 0, zret 1]
def zt13 (b : Nat) : List zO := match b with
  | 0 => zo13_0
  | 1 => zo13_1
  | 2 => zo13_2
  | 3 => zo13_3
  | 4 => zo13_4
  | 5 => zo13_5
  | 6 => zo13_6
  | 7 => zo13_7
  | 8 => zo13_8
  | 9 => zo13_9
  | 10 => zo13_10
  | 11 => zo13_11
  | 12 => zo13_12
  | 13 => zo13_13
  | 14 => zo13_14
  | _ => []
def zo14_0 : List zO := [zldA 0, zget 0 0 2, zcI (4), zldA 0, zget 0 0 2, zget 5 1 2, zldI 1, zald 0, zcI (1), zbI 1, zcL (0), zcI (0), zcal 89 5 1 5, zstI 2, zldA 0, zget 0 0 2, zldI 1, zcI (1), zbI 0, zcal 92 2 1 5, zstI 3, zldA 0, zget 0 0 2, zldI 3, zldA 0, zget 0 0 2, zldI 1, zcal 92 2 1 5, zldI 3, zbI 1, zcal 97 3 1 5, zpop, zldA 0, zget 0 0 2, zldI 2, zcal 91 2 1 5, zldA 0, zldI 2, zcal 18 2 1 0, zret 1]
def zt14 (b : Nat) : List zO := match b with
  | 0 => zo14_0
  | _ => []
def zo15_0 : List zO := [zldA 0, zget 0 0 2, zget 5 2 2, zldI 1, zald 0, zldA 0, zget 0 0 2, zget 5 2 2, zldI 2, zald 0, zbI 0, zcI (200), zic 5 1, zcI (1), zgo 2]
def zo15_1 : List zO := [zcI (0), zfal 2]
def zo15_2 : List zO := [zstI 3, zldI 3, zif 1 3, zldA 0, zget 0 0 2, zldI 1, zcal 100 2 1 5, zcI (12), zic 2 4, zfal 3]
def zo15_3 : List zO := [zcI (-1), zret 1]
def zo15_4 : List zO := [zldA 0, zget 0 0 2, zcI (4), zldA 0, zget 0 0 2, zget 5 1 2, zldI 2, zald 0, zcI (1), zbI 0, zcL (0), zcI (0), zcal 89 5 1 5, zstI 4, zldA 0, zget 0 0 2, zldI 1, zldA 0, zget 0 0 2, zget 5 2 2, zldI 1, zald 0, zcal 97 3 1 5, zpop, zldA 0, zget 0 0 2, zldI 2, zcI (1), zbI 0, zldA 0, zget 0 0 2, zget 5 2 2, zldI 2, zald 0, zcI (1), zbI 1, zcal 97 3 1 5, zpop, zldA 0, zget 0 0 2, zldI 4, zcal 91 2 1 5, zldA 0, zldI 4, zcal 18 2 1 0, zret 1]
def zt15 (b : Nat) : List zO := match b with
  | 0 => zo15_0
  | 1 => zo15_1
  | 2 => zo15_2
  | 3 => zo15_3
  | 4 => zo15_4
  | _ => []
def zo16_0 : List zO := [zldA 0, zget 0 1 2, zcI (0), zldL 1, zcI (0), zcI (0), zcal 152 5 1 10, zret 1]
def zt16 (b : Nat) : List zO := match b with
  | 0 => zo16_0
  | _ => []
def zo17_0 : List zO := [zldA 0, zget 0 1 2, zcI (2), zldI 1, zif 0 1, zcL (1), zgo 2]
def zo17_1 : List zO := [zcL (0), zfal 2]
def zo17_2 : List zO := [zcI (0), zcI (0), zcal 152 5 1 10, zret 1]
def zt17 (b : Nat) : List zO := match b with
  | 0 => zo17_0
  | 1 => zo17_1
  | 2 => zo17_2
  | _ => []
def zo18_0 : List zO := [zldA 0, zget 0 1 2, zcI (4), zcL (0), zldI 1, zcI (0), zcal 152 5 1 10, zret 1]
def zt18 (b : Nat) : List zO := match b with
  | 0 => zo18_0
  | _ => []
def zo19_0 : List zO := [zldA 0, zoini, zldA 0, zldI 1, znewa 16, zput 1 0 2, zldA 0, zldI 1, znewa 17, zput 1 1 2, zldA 0, zldI 1, znewa 17, zput 1 2 2, zret 0]
def zt19 (b : Nat) : List zO := match b with
  | 0 => zo19_0
  | _ => []
def zo20_0 : List zO := [zcI (0), zstI 4, zfal 1]
def zo20_1 : List zO := [zldI 4, zldA 0, zget 1 3 0, zic 3 2, zldA 0, zget 1 0 2, zldI 4, zald 0, zldA 0, zget 1 1 2, zldI 4, zald 1, zldI 1, zldL 2, zcal 21 4 0 1, zif 0 2, zinc 4 (1), zgo 1]
def zo20_2 : List zO := [zldI 4, zret 1]
def zt20 (b : Nat) : List zO := match b with
  | 0 => zo20_0
  | 1 => zo20_1
  | 2 => zo20_2
  | _ => []
def zo21_0 : List zO := [zldI 0, zldI 3, zic 0 2, zldI 0, zldI 3, zic 3 1, zcI (1), zgo 4]
def zo21_1 : List zO := [zcI (0), zgo 4]
def zo21_2 : List zO := [zldL 1, zcL (-9223372036854775808), zbL 5, zldL 4, zcL (-9223372036854775808), zbL 5, zcmp, zif 3 3, zcI (1), zgo 4]
def zo21_3 : List zO := [zcI (0), zfal 4]
def zo21_4 : List zO := [zret 2]
def zt21 (b : Nat) : List zO := match b with
  | 0 => zo21_0
  | 1 => zo21_1
  | 2 => zo21_2
  | 3 => zo21_3
  | 4 => zo21_4
  | _ => []
def zo22_0 : List zO := [zldI 1, zldA 0, zget 1 3 0, zic 3 1, zldA 0, zget 1 0 2, zldI 1, zald 0, zldI 2, zic 1 1, zldA 0, zget 1 1 2, zldI 1, zald 1, zldL 3, zcmp, zif 1 1, zcI (1), zgo 2]
def zo22_1 : List zO := [zcI (0), zfal 2]
def zo22_2 : List zO := [zret 2]
def zt22 (b : Nat) : List zO := match b with
  | 0 => zo22_0
  | 1 => zo22_1
  | 2 => zo22_2
  | _ => []
def zo23_0 : List zO := [zldA 0, zldI 1, zldL 2, zcal 20 3 1 1, zstI 4, zldA 0, zldI 4, zldI 1, zldL 2, zcal 22 4 1 1, zif 0 1, zldA 0, zget 1 2 2, zldI 4, zald 1, zgo 2]
def zo23_1 : List zO := [zcL (0), zfal 2]
def zo23_2 : List zO := [zret 3]
def zt23 (b : Nat) : List zO := match b with
  | 0 => zo23_0
  | 1 => zo23_1
  | 2 => zo23_2
  | _ => []
def zo24_0 : List zO := [zldA 0, zldI 1, zldL 2, zcal 20 3 1 1, zstI 6, zldA 0, zldI 6, zldI 1, zldL 2, zcal 22 4 1 1, zif 0 2, zldA 0, zget 1 2 2, zldI 6, zald 1, zcL (4611686018427387904), zldL 4, zbL 1, zcmp, zif 5 1, zcI (0), zret 2]
def zo24_1 : List zO := [zldA 0, zget 1 2 2, zldI 6, zdup2, zald 1, zldL 4, zbL 0, zast 1, zcI (1), zret 2]
def zo24_2 : List zO := [zldA 0, zget 1 3 0, zldA 0, zget 1 2 2, zlen, zic 2 3, zcI (0), zret 2]
def zo24_3 : List zO := [zldA 0, zget 1 0 2, zldI 6, zldA 0, zget 1 0 2, zldI 6, zcI (1), zbI 0, zldA 0, zget 1 3 0, zldI 6, zbI 1, zacp, zldA 0, zget 1 1 2, zldI 6, zldA 0, zget 1 1 2, zldI 6, zcI (1), zbI 0, zldA 0, zget 1 3 0, zldI 6, zbI 1, zacp, zldA 0, zget 1 2 2, zldI 6, zldA 0, zget 1 2 2, zldI 6, zcI (1), zbI 0, zldA 0, zget 1 3 0, zldI 6, zbI 1, zacp, zldA 0, zget 1 0 2, zldI 6, zldI 1, zast 0, zldA 0, zget 1 1 2, zldI 6, zldL 2, zast 1, zldA 0, zget 1 2 2, zldI 6, zldL 4, zast 1, zldA 0, zdup, zget 1 3 0, zcI (1), zbI 0, zput 1 3 0, zcI (1), zret 2]
def zt24 (b : Nat) : List zO := match b with
  | 0 => zo24_0
  | 1 => zo24_1
  | 2 => zo24_2
  | 3 => zo24_3
  | _ => []
def zo25_0 : List zO := [zcI (0), zstI 2, zfal 1]
def zo25_1 : List zO := [zldI 2, zldA 1, zget 1 3 0, zic 3 3, zldA 0, zldA 1, zget 1 0 2, zldI 2, zald 0, zldA 1, zget 1 1 2, zldI 2, zald 1, zldA 1, zget 1 2 2, zldI 2, zald 1, zcal 24 4 1 1, zif 1 2, zcI (0), zret 2]
def zo25_2 : List zO := [zinc 2 (1), zgo 1]
def zo25_3 : List zO := [zcI (1), zret 2]
def zt25 (b : Nat) : List zO := match b with
  | 0 => zo25_0
  | 1 => zo25_1
  | 2 => zo25_2
  | 3 => zo25_3
  | _ => []
def zo26_0 : List zO := [zldA 0, zget 1 3 0, zldA 0, zget 1 2 2, zlen, zic 2 1, zcI (0), zret 2]
def zo26_1 : List zO := [zldA 0, zget 1 3 0, zif 5 2, zldA 0, zget 1 0 2, zldA 0, zget 1 3 0, zcI (1), zbI 1, zald 0, zldA 0, zget 1 1 2, zldA 0, zget 1 3 0, zcI (1), zbI 1, zald 1, zldI 1, zldL 2, zcal 21 4 0 1, zif 1 2, zcI (0), zret 2]
def zo26_2 : List zO := [zldA 0, zget 1 0 2, zldA 0, zget 1 3 0, zldI 1, zast 0, zldA 0, zget 1 1 2, zldA 0, zget 1 3 0, zldL 2, zast 1, zldA 0, zget 1 2 2, zldA 0, zget 1 3 0, zldL 4, zast 1, zldA 0, zdup, zget 1 3 0, zcI (1), zbI 0, zput 1 3 0, zcI (1), zret 2]
def zt26 (b : Nat) : List zO := match b with
  | 0 => zo26_0
  | 1 => zo26_1
  | 2 => zo26_2
  | _ => []
def zo27_0 : List zO := [zldA 0, zget 1 3 0, zcI (1), zic 1 1, zldA 0, zget 1 0 2, zcI (0), zald 0, zif 1 1, zcI (1), zgo 2]
def zo27_1 : List zO := [zcI (0), zfal 2]
def zo27_2 : List zO := [zret 2]
def zt27 (b : Nat) : List zO := match b with
  | 0 => zo27_0
  | 1 => zo27_1
  | 2 => zo27_2
  | _ => []
def zo28_0 : List zO := [znew 1 4, zdup, zldA 0, zget 1 3 0, zcal 19 2 2 1, zstA 1, zldA 0, zget 1 0 2, zcI (0), zldA 1, zget 1 0 2, zcI (0), zldA 0, zget 1 3 0, zacp, zldA 0, zget 1 1 2, zcI (0), zldA 1, zget 1 1 2, zcI (0), zldA 0, zget 1 3 0, zacp, zldA 0, zget 1 2 2, zcI (0), zldA 1, zget 1 2 2, zcI (0), zldA 0, zget 1 3 0, zacp, zldA 1, zldA 0, zget 1 3 0, zput 1 3 0, zldA 1, zret 4]
def zt28 (b : Nat) : List zO := match b with
  | 0 => zo28_0
  | _ => []
def zo29_0 : List zO := [zldA 0, zoini, zldA 0, zcI (200), znewa 16, zput 2 1 2, zldA 0, zcI (12), znewa 16, zput 2 2 2, zldA 0, zcI (12), znewa 16, zput 2 3 2, zldA 0, zldA 1, zput 2 0 2, zret 0]
def zt29 (b : Nat) : List zO := match b with
  | 0 => zo29_0
  | _ => []
def zo30_0 : List zO := [zldA 0, zldI 1, zput 2 9 0, zldA 0, zldI 2, zput 2 6 0, zldA 0, zcI (-1), zput 2 10 0, zldA 0, zcI (0), zput 2 4 0, zldA 0, zcI (0), zput 2 5 0, zcI (0), zstI 3, zfal 1]
def zo30_1 : List zO := [zldI 3, zcI (200), zic 4 4, zldA 0, zcal 31 1 1 2, zstI 4, zldI 4, zif 0 2, zldI 4, zret 1]
def zo30_2 : List zO := [zldA 0, zcal 40 1 1 2, zldA 0, zget 2 4 0, zif 1 3, zcI (0), zret 1]
def zo30_3 : List zO := [zinc 3 (1), zgo 1]
def zo30_4 : List zO := [zcI (5), zret 1]
def zt30 (b : Nat) : List zO := match b with
  | 0 => zo30_0
  | 1 => zo30_1
  | 2 => zo30_2
  | 3 => zo30_3
  | 4 => zo30_4
  | _ => []
def zo31_0 : List zO := [zldA 0, zget 2 9 0, zstI 1, zldA 0, zcI (0), zcal 32 2 1 2, zstI 2, zldI 2, zif 1 1, zldA 0, zldI 1, zcal 36 2 1 2, zstI 2, zfal 1]
def zo31_1 : List zO := [zldI 2, zif 0 2, zldI 2, zret 1]
def zo31_2 : List zO := [zldA 0, zget 2 1 2, zldA 0, zget 2 5 0, zldI 1, zast 0, zldA 0, zdup, zget 2 5 0, zcI (1), zbI 0, zput 2 5 0, zldA 0, zget 2 7 0, ztsw 7 (0) [3, 4, 5, 7, 7, 7, 6]]
def zo31_3 : List zO := [zldA 0, zget 2 0 2, zldA 0, zget 2 8 1, zcal 90 2 1 5, zpop, zcI (0), zret 1]
def zo31_4 : List zO := [zldA 0, zget 2 0 2, zcL (-1), zldA 0, zget 2 8 1, zbL 1, zcal 90 2 1 5, zpop, zcI (0), zret 1]
def zo31_5 : List zO := [zldA 0, zcal 37 1 1 2, zret 1]
def zo31_6 : List zO := [zldA 0, zcal 38 1 1 2, zret 1]
def zo31_7 : List zO := [zldA 0, zldA 0, zget 2 7 0, zcL (0), zcal 39 3 1 2, zcI (0), zret 1]
def zt31 (b : Nat) : List zO := match b with
  | 0 => zo31_0
  | 1 => zo31_1
  | 2 => zo31_2
  | 3 => zo31_3
  | 4 => zo31_4
  | 5 => zo31_5
  | 6 => zo31_6
  | 7 => zo31_7
  | _ => []
def zo32_0 : List zO := [zldA 0, zget 2 9 0, zstI 2, zldA 0, zget 2 9 0, zldA 0, zget 2 6 0, zic 2 1, zldA 0, zcI (1), zldA 0, zget 2 6 0, zcal 41 3 1 2, zret 1]
def zo32_1 : List zO := [zldA 0, zget 2 0 2, zget 5 5 2, zldA 0, zget 2 9 0, zald 3, zcI (255), zbI 3, zstI 3, zldA 0, zdup, zget 2 9 0, zcI (1), zbI 0, zput 2 9 0, zldA 0, zldI 3, zcI (5), zbI 6, zput 2 7 0, zldI 3, zcI (31), zbI 3, zstI 4, zldI 4, zcI (27), zic 4 2, zldA 0, zget 2 7 0, zcI (3), zic 0 2, zldA 0, zget 2 7 0, zcI (7), zic 0 2, zldI 1, zif 0 3, zldA 0, zget 2 7 0, zcI (4), zic 0 3, zfal 2]
def zo32_2 : List zO := [zldA 0, zcI (3), zldI 2, zcal 41 3 1 2, zret 1]
def zo32_3 : List zO := [zldA 0, zldI 4, zun 1, zput 2 8 1, zldI 4, zcI (24), zic 2 5, zcI (1), zldI 4, zcI (24), zbI 1, zbI 5, zstI 5, zldA 0, zget 2 6 0, zldA 0, zget 2 9 0, zbI 1, zldI 5, zic 3 4, zldA 0, zcI (1), zldA 0, zget 2 6 0, zcal 41 3 1 2, zret 1]
def zo32_4 : List zO := [zldA 0, zldI 5, zcal 33 2 1 2, zldA 0, zldI 5, zcal 34 2 1 2, zif 0 5, zldA 0, zcI (2), zldI 2, zcal 41 3 1 2, zret 1]
def zo32_5 : List zO := [zldA 0, zcal 35 1 1 2, zif 0 6, zcI (0), zgo 7]
def zo32_6 : List zO := [zldA 0, zcI (3), zldI 2, zcal 41 3 1 2, zfal 7]
def zo32_7 : List zO := [zret 1]
def zt32 (b : Nat) : List zO := match b with
  | 0 => zo32_0
  | 1 => zo32_1
  | 2 => zo32_2
  | 3 => zo32_3
  | 4 => zo32_4
  | 5 => zo32_5
  | 6 => zo32_6
  | 7 => zo32_7
  | _ => []
def zo33_0 : List zO := [zldA 0, zcL (0), zput 2 8 1, zcI (0), zstI 2, zfal 1]
def zo33_1 : List zO := [zldI 2, zldI 1, zic 3 2, zldA 0, zldA 0, zget 2 8 1, zcI (8), zsL 0, zldA 0, zget 2 0 2, zget 5 5 2, zldA 0, zget 2 9 0, zald 3, zcI (255), zbI 3, zun 1, zbL 4, zput 2 8 1, zldA 0, zdup, zget 2 9 0, zcI (1), zbI 0, zput 2 9 0, zinc 2 (1), zgo 1]
def zo33_2 : List zO := [zret 0]
def zt33 (b : Nat) : List zO := match b with
  | 0 => zo33_0
  | 1 => zo33_1
  | 2 => zo33_2
  | _ => []
def zo34_0 : List zO := [zldI 1, zcI (1), zic 1 2, zldA 0, zget 2 8 1, zcL (24), zcmp, zif 3 1, zcI (1), zgo 4]
def zo34_1 : List zO := [zcI (0), zgo 4]
def zo34_2 : List zO := [zldA 0, zget 2 8 1, zcI (4), zldI 1, zbI 2, zsL 2, zcL (0), zcmp, zif 1 3, zcI (1), zgo 4]
def zo34_3 : List zO := [zcI (0), zfal 4]
def zo34_4 : List zO := [zret 2]
def zt34 (b : Nat) : List zO := match b with
  | 0 => zo34_0
  | 1 => zo34_1
  | 2 => zo34_2
  | 3 => zo34_3
  | 4 => zo34_4
  | _ => []
def zo35_0 : List zO := [zldA 0, zget 2 7 0, ztsw 12 (0) [1, 1, 4, 12, 12, 12, 7]]
def zo35_1 : List zO := [zldA 0, zget 2 8 1, zcL (0), zcmp, zif 2 2, zcI (1), zgo 3]
def zo35_2 : List zO := [zcI (0), zfal 3]
def zo35_3 : List zO := [zret 2]
def zo35_4 : List zO := [zldA 0, zget 2 8 1, zcL (0), zcmp, zif 2 5, zldA 0, zget 2 8 1, zcL (64), zcmp, zif 4 5, zcI (1), zgo 6]
def zo35_5 : List zO := [zcI (0), zfal 6]
def zo35_6 : List zO := [zret 2]
def zo35_7 : List zO := [zldA 0, zget 2 8 1, zcL (121), zcmp, zif 2 8, zldA 0, zget 2 8 1, zcL (127), zcmp, zif 5 9, zfal 8]
def zo35_8 : List zO := [zldA 0, zget 2 8 1, zcL (1280), zcmp, zif 2 10, zldA 0, zget 2 8 1, zcL (1400), zcmp, zif 4 10, zfal 9]
def zo35_9 : List zO := [zcI (1), zgo 11]
def zo35_10 : List zO := [zcI (0), zfal 11]
def zo35_11 : List zO := [zret 2]
def zo35_12 : List zO := [zcI (1), zret 2]
def zt35 (b : Nat) : List zO := match b with
  | 0 => zo35_0
  | 1 => zo35_1
  | 2 => zo35_2
  | 3 => zo35_3
  | 4 => zo35_4
  | 5 => zo35_5
  | 6 => zo35_6
  | 7 => zo35_7
  | 8 => zo35_8
  | 9 => zo35_9
  | 10 => zo35_10
  | 11 => zo35_11
  | 12 => zo35_12
  | _ => []
def zo36_0 : List zO := [zldA 0, zget 2 4 0, zcI (12), zic 2 1, zldA 0, zcI (4), zldI 1, zcal 41 3 1 2, zret 1]
def zo36_1 : List zO := [zldA 0, zget 2 5 0, zcI (200), zic 2 2, zldA 0, zcI (5), zldI 1, zcal 41 3 1 2, zgo 3]
def zo36_2 : List zO := [zcI (0), zfal 3]
def zo36_3 : List zO := [zret 1]
def zt36 (b : Nat) : List zO := match b with
  | 0 => zo36_0
  | 1 => zo36_1
  | 2 => zo36_2
  | 3 => zo36_3
  | _ => []
def zo37_0 : List zO := [zldA 0, zget 2 8 1, zun 2, zstI 1, zldA 0, zget 2 6 0, zldA 0, zget 2 9 0, zbI 1, zldI 1, zic 3 1, zldA 0, zcI (1), zldA 0, zget 2 6 0, zcal 41 3 1 2, zret 1]
def zo37_1 : List zO := [zldA 0, zget 2 0 2, zcI (2), zldI 1, zcL (0), zldA 0, zget 2 9 0, zcal 89 5 1 5, zpop, zldA 0, zdup, zget 2 9 0, zldI 1, zbI 0, zput 2 9 0, zcI (0), zret 1]
def zt37 (b : Nat) : List zO := match b with
  | 0 => zo37_0
  | 1 => zo37_1
  | _ => []
def zo38_0 : List zO := [zldA 0, zget 2 8 1, zcL (127), zcmp, zif 4 1, zldA 0, zget 2 8 1, zcL (121), zbL 1, zgo 2]
def zo38_1 : List zO := [zldA 0, zget 2 8 1, zcL (1273), zbL 1, zfal 2]
def zo38_2 : List zO := [zstL 1, zldA 0, zcI (1), zcal 32 2 1 2, zstI 3, zldI 3, zif 1 3, zldA 0, zcI (6), zldL 1, zcal 39 3 1 2, zfal 3]
def zo38_3 : List zO := [zldI 3, zret 1]
def zt38 (b : Nat) : List zO := match b with
  | 0 => zo38_0
  | 1 => zo38_1
  | 2 => zo38_2
  | 3 => zo38_3
  | _ => []
def zo39_0 : List zO := [zldA 0, zget 2 8 1, zcL (0), zcmp, zif 2 1, zldA 0, zget 2 8 1, zcL (200), zcmp, zif 5 2, zfal 1]
def zo39_1 : List zO := [zcI (1), zgo 3]
def zo39_2 : List zO := [zcI (0), zfal 3]
def zo39_3 : List zO := [zstI 4, zldI 4, zif 0 4, zcI (201), zgo 5]
def zo39_4 : List zO := [zldA 0, zget 2 8 1, zun 2, zfal 5]
def zo39_5 : List zO := [zstI 5, zldI 1, zcI (5), zic 1 6, zldI 5, zcI (2), zbI 2, zstI 5, zfal 6]
def zo39_6 : List zO := [zldA 0, zget 2 2 2, zldA 0, zget 2 4 0, zldA 0, zget 2 0 2, zldI 1, zldI 5, zldL 2, zcI (0), zcal 89 5 1 5, zast 0, zldA 0, zget 2 3 2, zldA 0, zget 2 4 0, zldI 5, zast 0, zldA 0, zdup, zget 2 4 0, zcI (1), zbI 0, zput 2 4 0, zret 0]
def zt39 (b : Nat) : List zO := match b with
  | 0 => zo39_0
  | 1 => zo39_1
  | 2 => zo39_2
  | 3 => zo39_3
  | 4 => zo39_4
  | 5 => zo39_5
  | 6 => zo39_6
  | _ => []
def zo40_0 : List zO := [zldA 0, zget 2 4 0, zif 5 1, zldA 0, zget 2 2 2, zldA 0, zget 2 4 0, zcI (1), zbI 1, zald 0, zldA 0, zget 2 0 2, zget 5 7 0, zcI (1), zbI 1, zic 1 1, zcI (1), zgo 2]
def zo40_1 : List zO := [zcI (0), zfal 2]
def zo40_2 : List zO := [zstI 1, zldI 1, zif 1 3, zldA 0, zget 2 4 0, zif 5 3, zldA 0, zget 2 3 2, zldA 0, zget 2 4 0, zcI (1), zbI 1, zdup2, zald 0, zcI (1), zbI 1, zast 0, zfal 3]
def zo40_3 : List zO := [zldA 0, zget 2 4 0, zif 5 4, zldA 0, zget 2 3 2, zldA 0, zget 2 4 0, zcI (1), zbI 1, zald 0, zif 1 4, zldA 0, zdup, zget 2 4 0, zcI (1), zbI 1, zput 2 4 0, zldA 0, zget 2 0 2, zldA 0, zget 2 2 2, zldA 0, zget 2 4 0, zald 0, zcal 91 2 1 5, zldA 0, zget 2 4 0, zif 5 3, zldA 0, zget 2 3 2, zldA 0, zget 2 4 0, zcI (1), zbI 1, zdup2, zald 0, zcI (1), zbI 1, zast 0, zgo 3]
def zo40_4 : List zO := [zret 0]
def zt40 (b : Nat) : List zO := match b with
  | 0 => zo40_0
  | 1 => zo40_1
  | 2 => zo40_2
  | 3 => zo40_3
  | 4 => zo40_4
  | _ => []
def zo41_0 : List zO := [zldA 0, zldI 2, zput 2 10 0, zldI 1, zret 1]
def zt41 (b : Nat) : List zO := match b with
  | 0 => zo41_0
  | _ => []
def zo42_0 : List zO := [zldA 0, zoini, zldA 0, zcI (1024), znewa 20, zput 3 0 2, zldA 0, zcI (65), znewa 17, zput 3 9 2, zldA 0, zcI (65), znewa 16, zput 3 10 2, zldA 0, zcI (65), znewa 16, zput 3 11 2, zldA 0, znew 1 4, zdup, zcI (64), zcal 19 2 2 1, zput 3 12 2, zldA 0, znew 1 4, zdup, zcI (65), zcal 19 2 2 1, zput 3 13 2, zldA 0, zldI 1, zput 3 1 0, zret 0]
def zt42 (b : Nat) : List zO := match b with
  | 0 => zo42_0
  | _ => []
def zo43_0 : List zO := [zldL 1, zcL (0), zcmp, zif 2 1, zldL 1, zldA 0, zget 3 2 0, zun 1, zcmp, zif 2 2, zfal 1]
def zo43_1 : List zO := [znul, zgo 3]
def zo43_2 : List zO := [zldA 0, zget 3 0 2, zldL 1, zun 2, zald 2, zfal 3]
def zo43_3 : List zO := [zret 4]
def zt43 (b : Nat) : List zO := match b with
  | 0 => zo43_0
  | 1 => zo43_1
  | 2 => zo43_2
  | 3 => zo43_3
  | _ => []
def zo44_0 : List zO := [zldA 0, zldL 1, zcal 43 2 1 3, zstA 3, zldA 3, zjn 1, zldA 3, zcal 105 1 1 6, zif 0 1, zldA 3, zgo 2]
def zo44_1 : List zO := [znul, zfal 2]
def zo44_2 : List zO := [zret 4]
def zt44 (b : Nat) : List zO := match b with
  | 0 => zo44_0
  | 1 => zo44_1
  | 2 => zo44_2
  | _ => []
def zo45_0 : List zO := [zldL 2, zcL (2), zcmp, zif 2 1, zldL 2, zcL (4611686018427387904), zcmp, zif 4 1, zldA 0, zget 3 2 0, zcI (1024), zic 2 2, zfal 1]
def zo45_1 : List zO := [zcI (-1), zret 1]
def zo45_2 : List zO := [zldA 0, zcI (0), zcL (0), zcal 46 3 1 3, zcL (4611686018427387904), zldL 2, zbL 1, zcmp, zif 5 3, zcI (-1), zret 1]
def zo45_3 : List zO := [znew 1 4, zdup, zcI (1), zcal 19 2 2 1, zstA 4, zldA 4, zcI (0), zcL (0), zldL 2, zcal 26 4 1 1, zpop, zldA 0, zget 3 0 2, zldA 0, zget 3 2 0, znew 6 5, zdup, zldI 1, zldA 4, zcI (1), znewa 15, zldA 0, zget 3 4 0, zcal 104 5 2 6, zast 2, zldA 0, zdup, zget 3 2 0, zcI (1), zbI 0, zput 3 2 0, zldA 0, zldA 0, zget 3 2 0, zput 3 3 0, zldA 0, zget 3 2 0, zcI (1), zbI 1, zret 1]
def zt45 (b : Nat) : List zO := match b with
  | 0 => zo45_0
  | 1 => zo45_1
  | 2 => zo45_2
  | 3 => zo45_3
  | _ => []
def zo46_0 : List zO := [zcL (0), zstL 4, zcI (0), zstI 6, zfal 1]
def zo46_1 : List zO := [zldI 6, zldA 0, zget 3 2 0, zic 3 3, zldA 0, zget 3 0 2, zldI 6, zald 2, zcal 105 1 1 6, zif 0 2, zldL 4, zldA 0, zget 3 0 2, zldI 6, zald 2, zget 6 1 2, zldI 1, zldL 2, zcal 23 3 1 1, zbL 0, zstL 4, zfal 2]
def zo46_2 : List zO := [zinc 6 (1), zgo 1]
def zo46_3 : List zO := [zldL 4, zret 3]
def zt46 (b : Nat) : List zO := match b with
  | 0 => zo46_0
  | 1 => zo46_1
  | 2 => zo46_2
  | 3 => zo46_3
  | _ => []
def zo47_0 : List zO := [zcI (0), zstI 1, zcI (0), zstI 2, zfal 1]
def zo47_1 : List zO := [zldI 2, zldA 0, zget 3 2 0, zic 3 3, zldA 0, zget 3 0 2, zldI 2, zald 2, zcal 105 1 1 6, zif 0 2, zinc 1 (1), zfal 2]
def zo47_2 : List zO := [zinc 2 (1), zgo 1]
def zo47_3 : List zO := [zldI 1, zret 1]
def zt47 (b : Nat) : List zO := match b with
  | 0 => zo47_0
  | 1 => zo47_1
  | 2 => zo47_2
  | 3 => zo47_3
  | _ => []
def zo48_0 : List zO := [zldI 2, zif 3 1, zcI (-1), zret 1]
def zo48_1 : List zO := [zldI 2, zstI 3, zcI (0), zstI 4, zfal 2]
def zo48_2 : List zO := [zldI 4, zldA 0, zget 3 2 0, zic 3 5, zldA 0, zget 3 0 2, zldI 4, zald 2, zcal 105 1 1 6, zif 0 4, zldA 0, zget 3 0 2, zldI 4, zald 2, zget 6 0 0, zldI 1, zic 1 4, zldI 3, zif 1 3, zldI 4, zret 1]
def zo48_3 : List zO := [zinc 3 (-1), zfal 4]
def zo48_4 : List zO := [zinc 4 (1), zgo 2]
def zo48_5 : List zO := [zcI (-1), zret 1]
def zt48 (b : Nat) : List zO := match b with
  | 0 => zo48_0
  | 1 => zo48_1
  | 2 => zo48_2
  | 3 => zo48_3
  | 4 => zo48_4
  | 5 => zo48_5
  | _ => []
def zo49_0 : List zO := [zldA 0, zldA 1, zcal 51 2 1 3, zif 0 1, zldA 0, zldA 1, zcal 53 2 1 3, zif 1 2, zfal 1]
def zo49_1 : List zO := [zcI (8), zret 1]
def zo49_2 : List zO := [zldA 1, zldA 0, zget 3 4 0, zcal 130 2 1 9, zif 1 3, zcI (9), zret 1]
def zo49_3 : List zO := [zldA 1, zcal 129 1 1 9, zcI (10), zldI 2, zcI (8), zbI 7, zbI 0, zun 1, zcmp, zif 3 4, zcI (10), zret 1]
def zo49_4 : List zO := [zldA 0, zldA 1, zcal 54 2 1 3, zif 0 5, zldA 0, zldA 1, zcal 56 2 1 3, zif 0 6, zfal 5]
def zo49_5 : List zO := [zcI (11), zret 1]
def zo49_6 : List zO := [zldA 0, zldA 1, zcal 57 2 1 3, zif 1 7, zcI (12), zret 1]
def zo49_7 : List zO := [zldA 0, zldA 1, zcal 50 2 1 3, zstI 3, zldI 3, zif 0 8, zldA 0, zldA 1, zcal 59 2 1 3, zif 1 8, zcI (13), zret 1]
def zo49_8 : List zO := [zcI (0), zstI 4, zfal 9]
def zo49_9 : List zO := [zldI 4, zldA 1, zcal 127 1 1 9, zic 3 11, zldA 1, zget 9 6 2, zldI 4, zald 2, zcI (0), zcL (0), zcal 23 3 1 1, zcL (2), zcmp, zif 3 10, zcI (14), zret 1]
def zo49_10 : List zO := [zinc 4 (1), zgo 9]
def zo49_11 : List zO := [zldA 0, zget 3 2 0, zldA 1, zcal 127 1 1 9, zbI 0, zcI (1024), zic 5 12, zcI (15), zret 1]
def zo49_12 : List zO := [zldI 3, zif 0 13, zldA 1, zldA 0, zget 3 12 2, zcal 143 2 1 9, zcI (200), zic 5 13, zcI (16), zgo 14]
def zo49_13 : List zO := [zcI (0), zfal 14]
def zo49_14 : List zO := [zret 1]
def zt49 (b : Nat) : List zO := match b with
  | 0 => zo49_0
  | 1 => zo49_1
  | 2 => zo49_2
  | 3 => zo49_3
  | 4 => zo49_4
  | 5 => zo49_5
  | 6 => zo49_6
  | 7 => zo49_7
  | 8 => zo49_8
  | 9 => zo49_9
  | 10 => zo49_10
  | 11 => zo49_11
  | 12 => zo49_12
  | 13 => zo49_13
  | 14 => zo49_14
  | _ => []
def zo50_0 : List zO := [zldA 1, zget 9 9 2, zget 1 3 0, zif 5 1, zcI (1), zret 2]
def zo50_1 : List zO := [zcI (0), zstI 2, zfal 2]
def zo50_2 : List zO := [zldI 2, zldA 1, zcal 122 1 1 9, zic 3 4, zldA 0, zldA 1, zldI 2, zcal 123 2 1 9, zcal 43 2 1 3, zstA 3, zldA 3, zjn 3, zldA 3, zget 6 0 0, zcI (256), zic 2 3, zcI (1), zret 2]
def zo50_3 : List zO := [zinc 2 (1), zgo 2]
def zo50_4 : List zO := [zcI (0), zret 2]
def zt50 (b : Nat) : List zO := match b with
  | 0 => zo50_0
  | 1 => zo50_1
  | 2 => zo50_2
  | 3 => zo50_3
  | 4 => zo50_4
  | _ => []
def zo51_0 : List zO := [zcI (0), zstI 2, zfal 1]
def zo51_1 : List zO := [zldI 2, zldA 1, zcal 122 1 1 9, zic 3 4, zldA 1, zldI 2, zcal 123 2 1 9, zstL 3, zldA 0, zldL 3, zcal 44 2 1 3, zjn 2, zldA 1, zldL 3, zldI 2, zcal 52 3 0 3, zif 0 3, zfal 2]
def zo51_2 : List zO := [zcI (0), zret 2]
def zo51_3 : List zO := [zinc 2 (1), zgo 1]
def zo51_4 : List zO := [zcI (1), zret 2]
def zt51 (b : Nat) : List zO := match b with
  | 0 => zo51_0
  | 1 => zo51_1
  | 2 => zo51_2
  | 3 => zo51_3
  | 4 => zo51_4
  | _ => []
def zo52_0 : List zO := [zcI (0), zstI 4, zfal 1]
def zo52_1 : List zO := [zldI 4, zldI 3, zic 3 3, zldA 0, zldI 4, zcal 123 2 1 9, zldL 1, zcmp, zif 1 2, zcI (1), zret 2]
def zo52_2 : List zO := [zinc 4 (1), zgo 1]
def zo52_3 : List zO := [zcI (0), zret 2]
def zt52 (b : Nat) : List zO := match b with
  | 0 => zo52_0
  | 1 => zo52_1
  | 2 => zo52_2
  | 3 => zo52_3
  | _ => []
def zo53_0 : List zO := [zcI (0), zstI 2, zfal 1]
def zo53_1 : List zO := [zldI 2, zldA 1, zcal 125 1 1 9, zic 3 7, zldA 1, zldI 2, zcal 126 2 1 9, zstL 3, zldA 0, zldL 3, zcal 44 2 1 3, zjn 2, zldA 1, zldL 3, zldA 1, zcal 122 1 1 9, zcal 52 3 0 3, zif 0 3, zfal 2]
def zo53_2 : List zO := [zcI (0), zret 2]
def zo53_3 : List zO := [zcI (0), zstI 5, zfal 4]
def zo53_4 : List zO := [zldI 5, zldI 2, zic 3 6, zldA 1, zldI 5, zcal 126 2 1 9, zldL 3, zcmp, zif 1 5, zcI (0), zret 2]
def zo53_5 : List zO := [zinc 5 (1), zgo 4]
def zo53_6 : List zO := [zinc 2 (1), zgo 1]
def zo53_7 : List zO := [zcI (1), zret 2]
def zt53 (b : Nat) : List zO := match b with
  | 0 => zo53_0
  | 1 => zo53_1
  | 2 => zo53_2
  | 3 => zo53_3
  | 4 => zo53_4
  | 5 => zo53_5
  | 6 => zo53_6
  | 7 => zo53_7
  | _ => []
def zo54_0 : List zO := [zldA 0, zget 3 12 2, zcI (0), zput 1 3 0, zcI (0), zstI 2, zfal 1]
def zo54_1 : List zO := [zldI 2, zldA 1, zcal 122 1 1 9, zic 3 3, zldA 0, zldA 1, zldI 2, zcal 123 2 1 9, zcal 43 2 1 3, zstA 3, zldA 3, zjn 2, zldA 0, zget 3 12 2, zldA 3, zget 6 1 2, zcal 25 2 1 1, zpop, zfal 2]
def zo54_2 : List zO := [zinc 2 (1), zgo 1]
def zo54_3 : List zO := [zldA 0, zget 3 13 2, zcI (0), zput 1 3 0, zldA 0, zget 3 13 2, zcI (0), zcL (0), zldA 1, zcal 129 1 1 9, zcal 24 4 1 1, zpop, zcI (0), zstI 2, zfal 4]
def zo54_4 : List zO := [zldI 2, zldA 1, zcal 127 1 1 9, zic 3 6, zldA 0, zget 3 13 2, zldA 1, zget 9 6 2, zldI 2, zald 2, zcal 25 2 1 1, zif 1 5, zcI (0), zret 2]
def zo54_5 : List zO := [zinc 2 (1), zgo 4]
def zo54_6 : List zO := [zldA 1, zget 9 9 2, zstA 2, zldA 0, zldA 0, zget 3 13 2, zldA 2, zcal 55 3 1 3, zif 0 7, zldA 0, zldA 0, zget 3 12 2, zldA 2, zcal 55 3 1 3, zif 0 7, zldA 0, zldA 2, zldA 2, zcal 55 3 1 3, zif 0 7, zcI (1), zgo 8]
def zo54_7 : List zO := [zcI (0), zfal 8]
def zo54_8 : List zO := [zret 2]
def zt54 (b : Nat) : List zO := match b with
  | 0 => zo54_0
  | 1 => zo54_1
  | 2 => zo54_2
  | 3 => zo54_3
  | 4 => zo54_4
  | 5 => zo54_5
  | 6 => zo54_6
  | 7 => zo54_7
  | 8 => zo54_8
  | _ => []
def zo55_0 : List zO := [zcI (0), zstI 3, zfal 1]
def zo55_1 : List zO := [zldI 3, zldA 1, zget 1 3 0, zic 3 3, zldA 1, zget 1 0 2, zldI 3, zald 0, zstI 4, zldA 1, zget 1 1 2, zldI 3, zald 1, zstL 5, zldA 0, zget 3 12 2, zldI 4, zldL 5, zcal 23 3 1 1, zldA 2, zldI 4, zldL 5, zcal 23 3 1 1, zbL 0, zldA 0, zget 3 13 2, zldI 4, zldL 5, zcal 23 3 1 1, zcmp, zif 0 2, zcI (0), zret 2]
def zo55_2 : List zO := [zinc 3 (1), zgo 1]
def zo55_3 : List zO := [zcI (1), zret 2]
def zt55 (b : Nat) : List zO := match b with
  | 0 => zo55_0
  | 1 => zo55_1
  | 2 => zo55_2
  | 3 => zo55_3
  | _ => []
def zo56_0 : List zO := [zldA 1, zget 9 9 2, zstA 2, zcI (0), zstI 3, zfal 1]
def zo56_1 : List zO := [zldI 3, zldA 2, zget 1 3 0, zic 3 3, zldA 2, zget 1 2 2, zldI 3, zald 1, zstL 4, zldL 4, zcL (0), zcmp, zif 5 2, zldA 0, zldA 2, zget 1 0 2, zldI 3, zald 0, zldA 2, zget 1 1 2, zldI 3, zald 1, zcal 46 3 1 3, zcL (4611686018427387904), zldL 4, zbL 1, zcmp, zif 5 2, zcI (1), zret 2]
def zo56_2 : List zO := [zinc 3 (1), zgo 1]
def zo56_3 : List zO := [zcI (0), zret 2]
def zt56 (b : Nat) : List zO := match b with
  | 0 => zo56_0
  | 1 => zo56_1
  | 2 => zo56_2
  | 3 => zo56_3
  | _ => []
def zo57_0 : List zO := [zcI (0), zstI 2, zfal 1]
def zo57_1 : List zO := [zldI 2, zldA 1, zcal 122 1 1 9, zic 3 3, zldA 0, zldA 1, zldA 1, zldI 2, zcal 123 2 1 9, zcal 58 3 1 3, zif 1 2, zcI (0), zret 2]
def zo57_2 : List zO := [zinc 2 (1), zgo 1]
def zo57_3 : List zO := [zcI (0), zstI 2, zfal 4]
def zo57_4 : List zO := [zldI 2, zldA 1, zcal 125 1 1 9, zic 3 6, zldA 0, zldA 1, zldA 1, zldI 2, zcal 126 2 1 9, zcal 58 3 1 3, zif 1 5, zcI (0), zret 2]
def zo57_5 : List zO := [zinc 2 (1), zgo 4]
def zo57_6 : List zO := [zcI (1), zret 2]
def zt57 (b : Nat) : List zO := match b with
  | 0 => zo57_0
  | 1 => zo57_1
  | 2 => zo57_2
  | 3 => zo57_3
  | 4 => zo57_4
  | 5 => zo57_5
  | 6 => zo57_6
  | _ => []
def zo58_0 : List zO := [zldA 0, zldL 2, zcal 43 2 1 3, zstA 4, zldA 4, zjn 1, zldA 4, zget 6 0 0, zcI (256), zic 3 1, zldA 1, zldA 4, zget 6 0 0, zcal 131 2 1 9, zif 0 2, zfal 1]
def zo58_1 : List zO := [zcI (1), zgo 3]
def zo58_2 : List zO := [zcI (0), zfal 3]
def zo58_3 : List zO := [zret 2]
def zt58 (b : Nat) : List zO := match b with
  | 0 => zo58_0
  | 1 => zo58_1
  | 2 => zo58_2
  | 3 => zo58_3
  | _ => []
def zo59_0 : List zO := [zcL (0), zstL 2, zcI (0), zstI 4, zfal 1]
def zo59_1 : List zO := [zldI 4, zldA 1, zcal 125 1 1 9, zic 3 4, zldA 0, zldA 1, zldI 4, zcal 126 2 1 9, zcal 43 2 1 3, zstA 5, zldA 5, zjn 2, zldA 5, zget 6 0 0, zcI (256), zic 3 2, zldA 5, zget 6 1 2, zcal 27 1 1 1, zif 1 3, zfal 2]
def zo59_2 : List zO := [zcI (0), zret 2]
def zo59_3 : List zO := [zldL 2, zldA 5, zget 6 1 2, zcI (0), zcL (0), zcal 23 3 1 1, zbL 0, zstL 2, zinc 4 (1), zgo 1]
def zo59_4 : List zO := [zldA 1, zcal 125 1 1 9, zif 5 5, zldL 2, zcL (2), zbL 6, zldA 1, zcal 129 1 1 9, zcmp, zif 2 5, zcI (1), zgo 6]
def zo59_5 : List zO := [zcI (0), zfal 6]
def zo59_6 : List zO := [zret 2]
def zt59 (b : Nat) : List zO := match b with
  | 0 => zo59_0
  | 1 => zo59_1
  | 2 => zo59_2
  | 3 => zo59_3
  | 4 => zo59_4
  | 5 => zo59_5
  | 6 => zo59_6
  | _ => []
def zo60_0 : List zO := [zcI (0), zstI 3, zfal 1]
def zo60_1 : List zO := [zldI 3, zldA 1, zcal 122 1 1 9, zic 3 2, zldA 0, zldA 1, zldI 3, zcal 123 2 1 9, zcal 62 2 1 3, zpop2, zinc 3 (1), zgo 1]
def zo60_2 : List zO := [zcI (0), zstI 3, zfal 3]
def zo60_3 : List zO := [zldI 3, zldA 1, zcal 127 1 1 9, zic 3 4, zldA 0, zget 3 2 0, zcI (1024), zic 3 4, zldA 0, zget 3 0 2, zldA 0, zget 3 2 0, znew 6 5, zdup, zldA 1, zget 9 4 2, zldI 3, zald 0, zldA 1, zget 9 6 2, zldI 3, zald 2, zcal 28 1 1 1, zldA 1, zldI 3, zldA 2, zcal 128 3 1 9, zldA 0, zget 3 4 0, zcal 104 5 2 6, zast 2, zldA 0, zdup, zget 3 2 0, zcI (1), zbI 0, zput 3 2 0, zinc 3 (1), zgo 3]
def zo60_4 : List zO := [zldA 0, zdup, zget 3 6 1, zldA 1, zcal 129 1 1 9, zbL 0, zput 3 6 1, zldA 0, zdup, zget 3 7 0, zcI (1), zbI 0, zput 3 7 0, zret 0]
def zt60 (b : Nat) : List zO := match b with
  | 0 => zo60_0
  | 1 => zo60_1
  | 2 => zo60_2
  | 3 => zo60_3
  | 4 => zo60_4
  | _ => []
def zo61_0 : List zO := [zcI (0), zstI 2, zfal 1]
def zo61_1 : List zO := [zldI 2, zldA 1, zcal 125 1 1 9, zic 3 2, zldA 0, zdup, zget 3 6 1, zldA 0, zldA 1, zldI 2, zcal 126 2 1 9, zcal 62 2 1 3, zbL 0, zput 3 6 1, zinc 2 (1), zgo 1]
def zo61_2 : List zO := [zldA 0, zdup, zget 3 8 0, zcI (1), zbI 0, zput 3 8 0, zret 0]
def zt61 (b : Nat) : List zO := match b with
  | 0 => zo61_0
  | 1 => zo61_1
  | 2 => zo61_2
  | _ => []
def zo62_0 : List zO := [zldA 0, zldL 1, zcal 44 2 1 3, zstA 3, zldA 3, zjnn 1, zcL (0), zret 3]
def zo62_1 : List zO := [zldA 3, zldA 0, zget 3 4 0, zput 6 4 0, zldA 3, zget 6 1 2, zcI (0), zcL (0), zcal 23 3 1 1, zret 3]
def zt62 (b : Nat) : List zO := match b with
  | 0 => zo62_0
  | 1 => zo62_1
  | _ => []
def zo63_0 : List zO := [zldA 0, zdup, zget 3 4 0, zcI (1), zbI 0, zput 3 4 0, zldA 0, zldA 0, zget 3 5 0, zcI (1), zbI 0, zldA 0, zget 3 1 0, zcal 319 2 0 16, zput 3 5 0, zldA 0, zget 3 4 0, zcI (65), zcal 315 2 0 16, zstI 1, zldA 0, zget 3 9 2, zldI 1, zldA 0, zget 3 6 1, zast 1, zldA 0, zget 3 10 2, zldI 1, zldA 0, zget 3 7 0, zast 0, zldA 0, zget 3 11 2, zldI 1, zldA 0, zget 3 8 0, zast 0, zldA 0, zget 3 4 0, zret 1]
def zt63 (b : Nat) : List zO := match b with
  | 0 => zo63_0
  | _ => []
def zo64_0 : List zO := [zldI 1, zif 2 1, zldI 1, zldA 0, zget 3 5 0, zic 5 2, zfal 1]
def zo64_1 : List zO := [zcI (-1), zret 1]
def zo64_2 : List zO := [zldA 0, zdup, zget 3 4 0, zldI 1, zbI 1, zput 3 4 0, zldA 0, zdup, zget 3 5 0, zldI 1, zbI 1, zput 3 5 0, zfal 3]
def zo64_3 : List zO := [zldA 0, zget 3 2 0, zldA 0, zget 3 3 0, zic 5 4, zldA 0, zget 3 0 2, zldA 0, zget 3 2 0, zcI (1), zbI 1, zald 2, zget 6 3 0, zldA 0, zget 3 4 0, zic 2 4, zldA 0, zdup, zget 3 2 0, zcI (1), zbI 1, zput 3 2 0, zldA 0, zget 3 0 2, zldA 0, zget 3 2 0, znul, zast 2, zgo 3]
def zo64_4 : List zO := [zcI (0), zstI 2, zfal 5]
def zo64_5 : List zO := [zldI 2, zldA 0, zget 3 2 0, zic 3 7, zldA 0, zget 3 0 2, zldI 2, zald 2, zget 6 4 0, zldA 0, zget 3 4 0, zic 2 6, zldA 0, zget 3 0 2, zldI 2, zald 2, zcI (-1), zput 6 4 0, zfal 6]
def zo64_6 : List zO := [zinc 2 (1), zgo 5]
def zo64_7 : List zO := [zldA 0, zget 3 4 0, zcI (65), zcal 315 2 0 16, zstI 2, zldA 0, zldA 0, zget 3 9 2, zldI 2, zald 1, zput 3 6 1, zldA 0, zldA 0, zget 3 10 2, zldI 2, zald 0, zput 3 7 0, zldA 0, zldA 0, zget 3 11 2, zldI 2, zald 0, zput 3 8 0, zldA 0, zget 3 4 0, zret 1]
def zt64 (b : Nat) : List zO := match b with
  | 0 => zo64_0
  | 1 => zo64_1
  | 2 => zo64_2
  | 3 => zo64_3
  | 4 => zo64_4
  | 5 => zo64_5
  | 6 => zo64_6
  | 7 => zo64_7
  | _ => []
def zo65_0 : List zO := [zldA 0, zoini, zldA 0, zcI (200), znewa 15, zput 4 3 2, zldA 0, zcI (200), znewa 17, zput 4 4 2, zldA 0, zcI (200), znewa 16, zput 4 5 2, zldA 0, zcI (400), znewa 15, zput 4 6 2, zldA 0, zcI (400), znewa 16, zput 4 7 2, zldA 0, zcI (400), znewa 16, zput 4 8 2, zldA 0, zldA 1, zput 4 0 2, zldA 0, znew 10 9, zdup, zldA 1, zcal 149 2 2 10, zput 4 1 2, zldA 0, znew 0 3, zdup, zldA 1, zldA 0, zget 4 1 2, zcal 0 3 2 0, zput 4 2 2, zret 0]
def zt65 (b : Nat) : List zO := match b with
  | 0 => zo65_0
  | _ => []
def zo66_0 : List zO := [zldI 2, zcI (-1), zic 1 1, zcI (2), zgo 2]
def zo66_1 : List zO := [zcI (3), zfal 2]
def zo66_2 : List zO := [zstI 5, zldI 5, zldA 1, zget 7 4 0, zbI 0, zstI 6, zldA 0, zget 4 1 2, zcal 150 1 1 10, zldA 0, zget 4 0 2, zcI (8320), zput 5 8 0, zldA 1, zget 7 3 2, zcI (0), zldA 0, zget 4 0 2, zget 5 5 2, zcI (4224), zldA 1, zget 7 3 2, zlen, zacp, zldA 1, zget 7 0 2, zcI (0), zldA 0, zget 4 3 2, zldI 5, zldA 1, zget 7 4 0, zacp, zldA 1, zget 7 1 2, zcI (0), zldA 0, zget 4 4 2, zldI 5, zldA 1, zget 7 4 0, zacp, zldA 1, zget 7 2 2, zcI (0), zldA 0, zget 4 5 2, zldI 5, zldA 1, zget 7 4 0, zacp, zldI 5, zstI 7, zfal 3]
def zo66_3 : List zO := [zldI 7, zldI 6, zic 3 4, zldA 0, zget 4 5 2, zldI 7, zdup2, zald 0, zldI 5, zbI 0, zast 0, zinc 7 (1), zgo 3]
def zo66_4 : List zO := [zldA 0, zldI 5, zldI 6, zcal 68 3 1 4, zcI (0), zstI 7, zfal 5]
def zo66_5 : List zO := [zldI 7, zldI 5, zic 3 6, zldA 0, zget 4 3 2, zldI 7, zcI (2), zast 3, zldA 0, zget 4 5 2, zldI 7, zldI 6, zldI 7, zbI 0, zast 0, zinc 7 (1), zgo 5]
def zo66_6 : List zO := [zldA 0, zldI 6, zldI 4, zcal 67 3 1 4, zldA 0, zldI 6, zcI (1), zbI 0, zldI 3, zcal 67 3 1 4, zldI 2, zcI (-1), zic 0 7, zldA 0, zldI 6, zcI (2), zbI 0, zldI 2, zcal 67 3 1 4, zfal 7]
def zo66_7 : List zO := [zret 0]
def zt66 (b : Nat) : List zO := match b with
  | 0 => zo66_0
  | 1 => zo66_1
  | 2 => zo66_2
  | 3 => zo66_3
  | 4 => zo66_4
  | 5 => zo66_5
  | 6 => zo66_6
  | 7 => zo66_7
  | _ => []
def zo67_0 : List zO := [zldA 0, zget 4 3 2, zldI 1, zcI (11), zast 3, zldA 0, zget 4 1 2, zldI 1, zcI (4), zcL (0), zldI 2, zcI (0), zcal 151 6 1 10, zret 0]
def zt67 (b : Nat) : List zO := match b with
  | 0 => zo67_0
  | _ => []
def zo68_0 : List zO := [zldA 0, zget 4 0 2, zcI (4), zcI (0), zcL (0), zcI (0), zcal 89 5 1 5, zstI 3, zldI 1, zstI 4, zfal 1]
def zo68_1 : List zO := [zldI 4, zldI 2, zic 3 8, zldA 0, zget 4 3 2, zldI 4, zald 3, ztsw 7 (7) [2, 3, 4, 5, 6]]
def zo68_2 : List zO := [zldA 0, zget 4 1 2, zldI 4, zcI (0), zldA 0, zget 4 4 2, zldI 4, zald 1, zcI (0), zcI (0), zcal 151 6 1 10, zgo 7]
def zo68_3 : List zO := [zcI (4224), zldA 0, zget 4 5 2, zldI 4, zald 0, zbI 0, zldI 1, zbI 1, zstI 5, zldA 0, zget 4 1 2, zldI 4, zcI (1), zcL (0), zldI 5, zldA 0, zget 4 4 2, zldI 4, zald 1, zun 2, zcal 151 6 1 10, zgo 7]
def zo68_4 : List zO := [zldA 0, zget 4 1 2, zldI 4, zcI (2), zldA 0, zget 4 4 2, zldI 4, zald 1, zcI (0), zcI (0), zcal 151 6 1 10, zgo 7]
def zo68_5 : List zO := [zldA 0, zget 4 1 2, zldI 4, zcI (3), zcL (0), zcI (0), zcI (0), zcal 151 6 1 10, zgo 7]
def zo68_6 : List zO := [zldA 0, zget 4 1 2, zldI 4, zcI (4), zcL (0), zldI 3, zcI (0), zcal 151 6 1 10, zgo 7]
def zo68_7 : List zO := [zinc 4 (1), zgo 1]
def zo68_8 : List zO := [zret 0]
def zt68 (b : Nat) : List zO := match b with
  | 0 => zo68_0
  | 1 => zo68_1
  | 2 => zo68_2
  | 3 => zo68_3
  | 4 => zo68_4
  | 5 => zo68_5
  | 6 => zo68_6
  | 7 => zo68_7
  | 8 => zo68_8
  | _ => []
def zo69_0 : List zO := [zldA 0, zcI (0), zput 4 9 0, zldA 0, zcI (0), zput 4 16 0, zldA 0, zcI (0), zput 4 17 0, zldA 0, zcI (0), zput 4 15 0, zldA 0, zcI (0), zput 4 11 0, zldA 0, zcI (-1), zput 4 12 0, zldA 0, zcI (0), zput 4 10 0, zcI (0), zstI 1, zfal 1]
def zo69_1 : List zO := [zldI 1, zcI (160000), zic 3 8, zldA 0, zget 4 10 0, zcI (5), zic 0 8, zldA 0, zget 4 10 0, ztsw 6 (0) [2, 3, 4, 5]]
def zo69_2 : List zO := [zldA 0, zcal 77 1 1 4, zgo 7]
def zo69_3 : List zO := [zldA 0, zcal 80 1 1 4, zgo 7]
def zo69_4 : List zO := [zldA 0, zcal 82 1 1 4, zgo 7]
def zo69_5 : List zO := [zldA 0, zcal 85 1 1 4, zgo 7]
def zo69_6 : List zO := [zldA 0, zldA 0, zget 4 2 2, zldA 0, zget 4 1 2, zget 10 2 2, zldA 0, zget 4 13 0, zald 1, zun 2, zcal 4 2 1 0, zcal 86 2 1 4, zfal 7]
def zo69_7 : List zO := [zinc 1 (1), zgo 1]
def zo69_8 : List zO := [zret 0]
def zt69 (b : Nat) : List zO := match b with
  | 0 => zo69_0
  | 1 => zo69_1
  | 2 => zo69_2
  | 3 => zo69_3
  | 4 => zo69_4
  | 5 => zo69_5
  | 6 => zo69_6
  | 7 => zo69_7
  | 8 => zo69_8
  | _ => []
def zo70_0 : List zO := [zldA 0, zget 4 15 0, zif 1 1, zldA 0, zget 4 1 2, zget 10 1 2, zldA 0, zget 4 14 0, zald 3, zgo 2]
def zo70_1 : List zO := [zcI (-1), zfal 2]
def zo70_2 : List zO := [zret 1]
def zt70 (b : Nat) : List zO := match b with
  | 0 => zo70_0
  | 1 => zo70_1
  | 2 => zo70_2
  | _ => []
def zo71_0 : List zO := [zldA 0, zget 4 15 0, zif 1 1, zldA 0, zget 4 1 2, zget 10 1 2, zldA 0, zget 4 14 0, zald 3, zcI (2), zic 1 1, zldA 0, zget 4 1 2, zget 10 2 2, zldA 0, zget 4 14 0, zald 1, zcL (1), zcmp, zif 1 1, zcI (1), zgo 2]
def zo71_1 : List zO := [zcI (0), zfal 2]
def zo71_2 : List zO := [zret 2]
def zt71 (b : Nat) : List zO := match b with
  | 0 => zo71_0
  | 1 => zo71_1
  | 2 => zo71_2
  | _ => []
def zo72_0 : List zO := [zldA 0, zldI 1, zput 4 15 0, zldA 0, zcI (5), zput 4 10 0, zret 0]
def zt72 (b : Nat) : List zO := match b with
  | 0 => zo72_0
  | _ => []
def zo73_0 : List zO := [zldI 1, zcI (20000), zldA 0, zget 4 16 0, zbI 1, zic 5 1, zldA 0, zcI (4), zcal 72 2 1 4, zcI (0), zret 2]
def zo73_1 : List zO := [zldA 0, zdup, zget 4 16 0, zldI 1, zbI 0, zput 4 16 0, zcI (1), zret 2]
def zt73 (b : Nat) : List zO := match b with
  | 0 => zo73_0
  | 1 => zo73_1
  | _ => []
def zo74_0 : List zO := [zldI 1, zcI (3000), zldA 0, zget 4 17 0, zbI 1, zic 5 1, zldA 0, zcI (5), zcal 72 2 1 4, zcI (0), zret 2]
def zo74_1 : List zO := [zldA 0, zdup, zget 4 17 0, zldI 1, zbI 0, zput 4 17 0, zcI (1), zret 2]
def zt74 (b : Nat) : List zO := match b with
  | 0 => zo74_0
  | 1 => zo74_1
  | _ => []
def zo75_0 : List zO := [zldA 0, zldI 1, zput 4 14 0, zldA 0, zcI (1), zput 4 10 0, zret 0]
def zt75 (b : Nat) : List zO := match b with
  | 0 => zo75_0
  | _ => []
def zo76_0 : List zO := [zldA 0, zldI 1, zput 4 11 0, zldA 0, zldI 2, zput 4 12 0, zldA 0, zcI (0), zput 4 10 0, zret 0]
def zt76 (b : Nat) : List zO := match b with
  | 0 => zo76_0
  | _ => []
def zo77_0 : List zO := [zldA 0, zcI (1), zcal 73 2 1 4, zif 1 1, zret 0]
def zo77_1 : List zO := [zldA 0, zget 4 3 2, zldA 0, zget 4 11 0, zald 3, ztsw 9 (0) [2, 3, 6, 4, 7, 8, 5]]
def zo77_2 : List zO := [zldA 0, zldA 0, zget 4 1 2, zldA 0, zget 4 12 0, zldA 0, zget 4 4 2, zldA 0, zget 4 11 0, zald 1, zcal 154 3 1 10, zcal 75 2 1 4, zgo 10]
def zo77_3 : List zO := [zldA 0, zcI (5), zcL (0), zldA 0, zget 4 11 0, zcI (1), zbI 0, zldA 0, zget 4 12 0, zcal 78 5 1 4, zgo 10]
def zo77_4 : List zO := [zldA 0, zcI (6), zcL (0), zldA 0, zget 4 11 0, zcI (1), zbI 0, zldA 0, zget 4 12 0, zcal 78 5 1 4, zgo 10]
def zo77_5 : List zO := [zldA 0, zcI (7), zldA 0, zget 4 4 2, zldA 0, zget 4 11 0, zald 1, zcI (-1), zcI (-1), zcal 78 5 1 4, zgo 10]
def zo77_6 : List zO := [zldA 0, zcI (0), zcal 79 2 1 4, zgo 10]
def zo77_7 : List zO := [zldA 0, zcI (2), zcal 79 2 1 4, zgo 10]
def zo77_8 : List zO := [zldA 0, zcI (1), zcal 72 2 1 4, zgo 10]
def zo77_9 : List zO := [zldA 0, zldA 0, zget 4 11 0, zcal 75 2 1 4, zfal 10]
def zo77_10 : List zO := [zret 0]
def zt77 (b : Nat) : List zO := match b with
  | 0 => zo77_0
  | 1 => zo77_1
  | 2 => zo77_2
  | 3 => zo77_3
  | 4 => zo77_4
  | 5 => zo77_5
  | 6 => zo77_6
  | 7 => zo77_7
  | 8 => zo77_8
  | 9 => zo77_9
  | 10 => zo77_10
  | _ => []
def zo78_0 : List zO := [zldA 0, zcI (1), zcal 74 2 1 4, zif 0 1, zldA 0, zldA 0, zget 4 1 2, zldI 1, zldL 2, zldI 4, zldI 5, zcal 152 5 1 10, zcal 75 2 1 4, zfal 1]
def zo78_1 : List zO := [zret 0]
def zt78 (b : Nat) : List zO := match b with
  | 0 => zo78_0
  | 1 => zo78_1
  | _ => []
def zo79_0 : List zO := [zldA 0, zget 4 9 0, zcI (400), zic 2 1, zldA 0, zcI (6), zcal 72 2 1 4, zret 0]
def zo79_1 : List zO := [zldA 0, zget 4 6 2, zldA 0, zget 4 9 0, zldI 1, zun 3, zast 3, zldA 0, zget 4 7 2, zldA 0, zget 4 9 0, zldA 0, zget 4 11 0, zast 0, zldA 0, zget 4 8 2, zldA 0, zget 4 9 0, zldA 0, zget 4 12 0, zast 0, zldA 0, zdup, zget 4 9 0, zcI (1), zbI 0, zput 4 9 0, zldA 0, zldA 0, zget 4 11 0, zcI (1), zbI 0, zldA 0, zget 4 12 0, zcal 76 3 1 4, zret 0]
def zt79 (b : Nat) : List zO := match b with
  | 0 => zo79_0
  | 1 => zo79_1
  | _ => []
def zo80_0 : List zO := [zldA 0, zget 4 9 0, zif 1 1, zldA 0, zcI (5), zput 4 10 0, zret 0]
def zo80_1 : List zO := [zldA 0, zget 4 9 0, zcI (1), zbI 1, zstI 1, zldA 0, zget 4 6 2, zldI 1, zald 3, zlsw 4 [0, 1] [2, 3]]
def zo80_2 : List zO := [zldA 0, zget 4 5 2, zldA 0, zget 4 7 2, zldI 1, zald 0, zald 0, zstI 2, zldA 0, zget 4 6 2, zldI 1, zcI (1), zast 3, zldA 0, zget 4 7 2, zldI 1, zldA 0, zget 4 14 0, zast 0, zldA 0, zldI 2, zldA 0, zget 4 8 2, zldI 1, zald 0, zcal 76 3 1 4, zgo 5]
def zo80_3 : List zO := [zldA 0, zldI 1, zput 4 9 0, zldA 0, zldA 0, zget 4 7 2, zldI 1, zald 0, zput 4 13 0, zldA 0, zcI (2), zput 4 10 0, zgo 5]
def zo80_4 : List zO := [zldA 0, zldI 1, zput 4 9 0, zldA 0, zcal 81 1 1 4, zfal 5]
def zo80_5 : List zO := [zret 0]
def zt80 (b : Nat) : List zO := match b with
  | 0 => zo80_0
  | 1 => zo80_1
  | 2 => zo80_2
  | 3 => zo80_3
  | 4 => zo80_4
  | 5 => zo80_5
  | _ => []
def zo81_0 : List zO := [zldA 0, zget 4 1 2, zget 10 1 2, zldA 0, zget 4 14 0, zald 3, zcI (6), zic 0 1, zldA 0, zcI (2), zcal 72 2 1 4, zgo 2]
def zo81_1 : List zO := [zldA 0, zldA 0, zget 4 1 2, zget 10 3 2, zldA 0, zget 4 14 0, zald 0, zldA 0, zget 4 1 2, zget 10 4 2, zldA 0, zget 4 14 0, zald 0, zcal 76 3 1 4, zfal 2]
def zo81_2 : List zO := [zret 0]
def zt81 (b : Nat) : List zO := match b with
  | 0 => zo81_0
  | 1 => zo81_1
  | 2 => zo81_2
  | _ => []
def zo82_0 : List zO := [zldA 0, zget 4 1 2, zget 10 1 2, zldA 0, zget 4 13 0, zald 3, zstI 1, zldI 1, zcI (5), zic 1 1, zldA 0, zcI (1), zcal 74 2 1 4, zif 0 3, zldA 0, zldA 0, zget 4 1 2, zget 10 3 2, zldA 0, zget 4 13 0, zald 0, zldA 0, zget 4 1 2, zldA 0, zget 4 14 0, zldA 0, zget 4 1 2, zget 10 4 2, zldA 0, zget 4 13 0, zald 0, zcal 153 3 1 10, zcal 76 3 1 4, zgo 3]
def zo82_1 : List zO := [zldI 1, zcI (7), zic 1 2, zldA 0, zcal 83 1 1 4, zgo 3]
def zo82_2 : List zO := [zldA 0, zcI (2), zcal 72 2 1 4, zfal 3]
def zo82_3 : List zO := [zret 0]
def zt82 (b : Nat) : List zO := match b with
  | 0 => zo82_0
  | 1 => zo82_1
  | 2 => zo82_2
  | 3 => zo82_3
  | _ => []
def zo83_0 : List zO := [zldA 0, zget 4 1 2, zget 10 2 2, zldA 0, zget 4 13 0, zald 1, zun 2, zstI 1, zldA 0, zldA 0, zget 4 13 0, zcal 84 2 1 4, zcI (1), zbI 0, zldA 0, zget 4 2 2, zldI 1, zcal 1 2 1 0, zic 3 1, zldA 0, zcI (7), zldI 1, zun 1, zldA 0, zget 4 14 0, zldA 0, zget 4 13 0, zcal 78 5 1 4, zgo 2]
def zo83_1 : List zO := [zldA 0, zcI (3), zput 4 10 0, zfal 2]
def zo83_2 : List zO := [zret 0]
def zt83 (b : Nat) : List zO := match b with
  | 0 => zo83_0
  | 1 => zo83_1
  | 2 => zo83_2
  | _ => []
def zo84_0 : List zO := [zcI (0), zstI 2, zldI 1, zstI 3, zfal 1]
def zo84_1 : List zO := [zldI 2, zcI (3), zic 3 2, zldA 0, zget 4 1 2, zget 10 4 2, zldI 3, zald 0, zcI (-1), zic 0 2, zinc 2 (1), zldA 0, zget 4 1 2, zget 10 4 2, zldI 3, zald 0, zstI 3, zgo 1]
def zo84_2 : List zO := [zldI 2, zret 1]
def zt84 (b : Nat) : List zO := match b with
  | 0 => zo84_0
  | 1 => zo84_1
  | 2 => zo84_2
  | _ => []
def zo85_0 : List zO := [zldA 0, zget 4 1 2, zget 10 2 2, zldA 0, zget 4 13 0, zald 1, zun 2, zstI 1, zldA 0, zldA 0, zldI 1, zcal 87 2 1 4, zcI (1), zbI 0, zcal 73 2 1 4, zif 1 1, zret 0]
def zo85_1 : List zO := [zldA 0, zget 4 2 2, zldI 1, zcal 2 2 1 0, zif 0 2, zldA 0, zcI (4), zput 4 10 0, zgo 3]
def zo85_2 : List zO := [zldA 0, zcI (2), zcal 72 2 1 4, zfal 3]
def zo85_3 : List zO := [zret 0]
def zt85 (b : Nat) : List zO := match b with
  | 0 => zo85_0
  | 1 => zo85_1
  | 2 => zo85_2
  | 3 => zo85_3
  | _ => []
def zo86_0 : List zO := [zldI 1, zcI (-1), zic 1 1, zldA 0, zcI (3), zcal 72 2 1 4, zgo 2]
def zo86_1 : List zO := [zldA 0, zldA 0, zget 4 1 2, zldI 1, zcal 155 2 1 10, zcal 74 2 1 4, zif 0 2, zldA 0, zldI 1, zcal 75 2 1 4, zfal 2]
def zo86_2 : List zO := [zret 0]
def zt86 (b : Nat) : List zO := match b with
  | 0 => zo86_0
  | 1 => zo86_1
  | 2 => zo86_2
  | _ => []
def zo87_0 : List zO := [zldA 0, zget 4 2 2, zldI 1, zcal 1 2 1 0, zcI (1), zbI 1, zstI 2, zldA 0, zget 4 1 2, zldA 0, zget 4 14 0, zcal 155 2 1 10, zstI 3, zldA 0, zget 4 13 0, zstI 4, zldA 0, zget 4 2 2, zget 0 2 2, zldI 2, zldA 0, zget 4 14 0, zast 0, zldI 2, zcI (1), zbI 1, zstI 5, zfal 1]
def zo87_1 : List zO := [zldI 5, zif 2 2, zldA 0, zget 4 2 2, zget 0 2 2, zldI 5, zldA 0, zget 4 1 2, zget 10 3 2, zldI 4, zald 0, zast 0, zldI 3, zldA 0, zget 4 1 2, zldA 0, zget 4 1 2, zget 10 3 2, zldI 4, zald 0, zcal 155 2 1 10, zbI 0, zstI 3, zldA 0, zget 4 1 2, zget 10 4 2, zldI 4, zald 0, zstI 4, zinc 5 (-1), zgo 1]
def zo87_2 : List zO := [zldI 3, zret 1]
def zt87 (b : Nat) : List zO := match b with
  | 0 => zo87_0
  | 1 => zo87_1
  | 2 => zo87_2
  | _ => []
def zo88_0 : List zO := [zldA 0, zoini, zldA 0, zcI (3801), znewa 15, zput 5 0 2, zldA 0, zcI (3801), znewa 16, zput 5 1 2, zldA 0, zcI (3801), znewa 16, zput 5 2 2, zldA 0, zcI (3801), znewa 16, zput 5 3 2, zldA 0, zcI (3801), znewa 17, zput 5 4 2, zldA 0, zcI (32384), znewa 15, zput 5 5 2, zldA 0, zcI (12), znewa 16, zput 5 6 2, zret 0]
def zt88 (b : Nat) : List zO := match b with
  | 0 => zo88_0
  | _ => []
def zo89_0 : List zO := [zldA 0, zget 5 7 0, zcI (3801), zic 3 1, zldA 0, zget 5 7 0, zgo 2]
def zo89_1 : List zO := [zcI (3800), zfal 2]
def zo89_2 : List zO := [zstI 6, zldA 0, zget 5 0 2, zldI 6, zldI 1, zun 3, zast 3, zldA 0, zget 5 1 2, zldI 6, zldI 2, zast 0, zldA 0, zget 5 2 2, zldI 6, zcI (1), zast 0, zldA 0, zget 5 4 2, zldI 6, zldL 3, zast 1, zldA 0, zget 5 3 2, zldI 6, zldI 5, zast 0, zldA 0, zldI 6, zcI (1), zbI 0, zput 5 7 0, zldI 6, zret 1]
def zt89 (b : Nat) : List zO := match b with
  | 0 => zo89_0
  | 1 => zo89_1
  | 2 => zo89_2
  | _ => []
def zo90_0 : List zO := [zldA 0, zcI (0), zcI (0), zldL 1, zcI (0), zcal 89 5 1 5, zret 1]
def zt90 (b : Nat) : List zO := match b with
  | 0 => zo90_0
  | _ => []
def zo91_0 : List zO := [zldA 0, zget 5 2 2, zldI 1, zldA 0, zget 5 7 0, zldI 1, zbI 1, zast 0, zret 0]
def zt91 (b : Nat) : List zO := match b with
  | 0 => zo91_0
  | _ => []
def zo92_0 : List zO := [zldI 1, zldA 0, zget 5 2 2, zldI 1, zald 0, zbI 0, zret 1]
def zt92 (b : Nat) : List zO := match b with
  | 0 => zo92_0
  | _ => []
def zo93_0 : List zO := [zldA 0, zget 5 0 2, zldI 1, zald 3, zif 1 1, zcI (1), zgo 2]
def zo93_1 : List zO := [zcI (0), zfal 2]
def zo93_2 : List zO := [zret 2]
def zt93 (b : Nat) : List zO := match b with
  | 0 => zo93_0
  | 1 => zo93_1
  | 2 => zo93_2
  | _ => []
def zo94_0 : List zO := [zldA 0, zget 5 0 2, zldI 1, zald 3, zif 1 1, zldA 0, zget 5 4 2, zldI 1, zald 1, zldL 2, zcmp, zif 2 1, zldA 0, zget 5 4 2, zldI 1, zald 1, zldL 4, zcmp, zif 4 1, zcI (1), zgo 2]
def zo94_1 : List zO := [zcI (0), zfal 2]
def zo94_2 : List zO := [zret 2]
def zt94 (b : Nat) : List zO := match b with
  | 0 => zo94_0
  | 1 => zo94_1
  | 2 => zo94_2
  | _ => []
def zo95_0 : List zO := [zldA 0, zget 5 0 2, zldI 1, zald 3, zcI (4), zic 1 1, zldA 0, zget 5 1 2, zldI 1, zald 0, zldI 2, zic 2 1, zldA 0, zget 5 1 2, zldI 1, zald 0, zldI 3, zic 4 1, zcI (1), zgo 2]
def zo95_1 : List zO := [zcI (0), zfal 2]
def zo95_2 : List zO := [zret 2]
def zt95 (b : Nat) : List zO := match b with
  | 0 => zo95_0
  | 1 => zo95_1
  | 2 => zo95_2
  | _ => []
def zo96_0 : List zO := [zldA 0, zget 5 0 2, zldI 1, zald 3, zcI (6), zic 1 1, zldA 0, zget 5 4 2, zldI 1, zald 1, zldL 2, zcmp, zif 1 1, zldA 0, zget 5 1 2, zldI 1, zald 0, zldI 4, zic 1 1, zcI (1), zgo 2]
def zo96_1 : List zO := [zcI (0), zfal 2]
def zo96_2 : List zO := [zret 2]
def zt96 (b : Nat) : List zO := match b with
  | 0 => zo96_0
  | 1 => zo96_1
  | 2 => zo96_2
  | _ => []
def zo97_0 : List zO := [zldA 0, zget 5 7 0, zstI 3, zldI 2, zcI (3801), zldI 3, zbI 1, zcal 319 2 0 16, zstI 4, zldA 0, zget 5 0 2, zldI 1, zldA 0, zget 5 0 2, zldI 3, zldI 4, zacp, zldA 0, zget 5 1 2, zldI 1, zldA 0, zget 5 1 2, zldI 3, zldI 4, zacp, zldA 0, zget 5 2 2, zldI 1, zldA 0, zget 5 2 2, zldI 3, zldI 4, zacp, zldA 0, zget 5 3 2, zldI 1, zldA 0, zget 5 3 2, zldI 3, zldI 4, zacp, zldA 0, zget 5 4 2, zldI 1, zldA 0, zget 5 4 2, zldI 3, zldI 4, zacp, zldA 0, zldI 3, zldI 4, zbI 0, zput 5 7 0, zldI 3, zret 1]
def zt97 (b : Nat) : List zO := match b with
  | 0 => zo97_0
  | _ => []
def zo98_0 : List zO := [zldA 0, zldI 1, zldA 0, zget 5 2 2, zldI 1, zald 0, zcal 97 3 1 5, zstI 5, zldA 0, zget 5 0 2, zldI 5, zldI 2, zun 3, zast 3, zldA 0, zget 5 4 2, zldI 5, zldL 3, zast 1, zldI 5, zret 1]
def zt98 (b : Nat) : List zO := match b with
  | 0 => zo98_0
  | _ => []
def zo99_0 : List zO := [zcI (0), zstI 2, zldA 0, zldI 1, zcal 92 2 1 5, zstI 3, zldI 1, zstI 4, zfal 1]
def zo99_1 : List zO := [zldI 4, zldI 3, zic 3 3, zldA 0, zget 5 0 2, zldI 4, zald 3, zcI (2), zic 1 2, zldI 2, zldA 0, zget 5 1 2, zldI 4, zald 0, zbI 0, zstI 2, zfal 2]
def zo99_2 : List zO := [zinc 4 (1), zgo 1]
def zo99_3 : List zO := [zldI 2, zret 1]
def zt99 (b : Nat) : List zO := match b with
  | 0 => zo99_0
  | 1 => zo99_1
  | 2 => zo99_2
  | 3 => zo99_3
  | _ => []
def zo100_0 : List zO := [zcI (0), zstI 2, zcI (0), zstI 3, zldA 0, zldI 1, zcal 92 2 1 5, zstI 4, zldI 1, zstI 5, zfal 1]
def zo100_1 : List zO := [zldI 5, zldI 4, zic 3 7, zfal 2]
def zo100_2 : List zO := [zldI 2, zif 5 3, zldI 5, zldA 0, zget 5 6 2, zldI 2, zcI (1), zbI 1, zald 0, zic 2 3, zinc 2 (-1), zgo 2]
def zo100_3 : List zO := [zldI 2, zcI (12), zic 3 4, zldA 0, zget 5 6 2, zldI 2, zldA 0, zldI 5, zcal 92 2 1 5, zast 0, zinc 2 (1), zfal 4]
def zo100_4 : List zO := [zldI 2, zldI 3, zic 5 5, zldI 2, zgo 6]
def zo100_5 : List zO := [zldI 3, zfal 6]
def zo100_6 : List zO := [zstI 3, zinc 5 (1), zgo 1]
def zo100_7 : List zO := [zldI 3, zret 1]
def zt100 (b : Nat) : List zO := match b with
  | 0 => zo100_0
  | 1 => zo100_1
  | 2 => zo100_2
  | 3 => zo100_3
  | 4 => zo100_4
  | 5 => zo100_5
  | 6 => zo100_6
  | 7 => zo100_7
  | _ => []
def zo101_0 : List zO := [zldA 0, zget 5 2 2, zldI 1, zald 0, zldA 0, zget 5 2 2, zldI 2, zald 0, zic 0 1, zcI (0), zret 2]
def zo101_1 : List zO := [zcI (0), zstI 3, zfal 2]
def zo101_2 : List zO := [zldI 3, zldA 0, zget 5 2 2, zldI 1, zald 0, zic 3 6, zldI 1, zldI 3, zbI 0, zstI 4, zldI 2, zldI 3, zbI 0, zstI 5, zldA 0, zget 5 0 2, zldI 4, zald 3, zldA 0, zget 5 0 2, zldI 5, zald 3, zic 1 3, zldA 0, zget 5 1 2, zldI 4, zald 0, zldA 0, zget 5 1 2, zldI 5, zald 0, zic 1 3, zldA 0, zget 5 4 2, zldI 4, zald 1, zldA 0, zget 5 4 2, zldI 5, zald 1, zcmp, zif 0 4, zfal 3]
def zo101_3 : List zO := [zcI (0), zret 2]
def zo101_4 : List zO := [zldA 0, zget 5 0 2, zldI 4, zald 3, zcI (2), zic 1 5, zldA 0, zldA 0, zget 5 3 2, zldI 4, zald 0, zldA 0, zget 5 1 2, zldI 4, zald 0, zldA 0, zget 5 3 2, zldI 5, zald 0, zldA 0, zget 5 1 2, zldI 5, zald 0, zcal 102 5 1 5, zif 0 5, zcI (0), zret 2]
def zo101_5 : List zO := [zinc 3 (1), zgo 2]
def zo101_6 : List zO := [zcI (1), zret 2]
def zt101 (b : Nat) : List zO := match b with
  | 0 => zo101_0
  | 1 => zo101_1
  | 2 => zo101_2
  | 3 => zo101_3
  | 4 => zo101_4
  | 5 => zo101_5
  | 6 => zo101_6
  | _ => []
def zo102_0 : List zO := [zldI 2, zldI 4, zcal 319 2 0 16, zstI 5, zcI (0), zstI 6, zfal 1]
def zo102_1 : List zO := [zldI 6, zldI 5, zic 3 3, zldA 0, zget 5 5 2, zldI 1, zldI 6, zbI 0, zald 3, zcI (255), zbI 3, zldA 0, zget 5 5 2, zldI 3, zldI 6, zbI 0, zald 3, zcI (255), zbI 3, zbI 1, zstI 7, zldI 7, zif 0 2, zldI 7, zret 1]
def zo102_2 : List zO := [zinc 6 (1), zgo 1]
def zo102_3 : List zO := [zldI 2, zldI 4, zbI 1, zret 1]
def zt102 (b : Nat) : List zO := match b with
  | 0 => zo102_0
  | 1 => zo102_1
  | 2 => zo102_2
  | 3 => zo102_3
  | _ => []
def zo103_0 : List zO := [zldI 2, zcI (32384), zldA 0, zget 5 8 0, zbI 1, zcal 319 2 0 16, zstI 3, zldA 0, zget 5 5 2, zldI 1, zldA 0, zget 5 5 2, zldA 0, zget 5 8 0, zldI 3, zacp, zldA 0, zdup, zget 5 8 0, zldI 3, zbI 0, zput 5 8 0, zret 0]
def zt103 (b : Nat) : List zO := match b with
  | 0 => zo103_0
  | _ => []
def zo104_0 : List zO := [zldA 0, zoini, zldA 0, zcI (-1), zput 6 4 0, zldA 0, zldI 1, zput 6 0 0, zldA 0, zldA 2, zput 6 1 2, zldA 0, zldA 3, zput 6 2 2, zldA 0, zldI 4, zput 6 3 0, zret 0]
def zt104 (b : Nat) : List zO := match b with
  | 0 => zo104_0
  | _ => []
def zo105_0 : List zO := [zldA 0, zget 6 4 0, zcI (-1), zic 1 1, zcI (1), zgo 2]
def zo105_1 : List zO := [zcI (0), zfal 2]
def zo105_2 : List zO := [zret 2]
def zt105 (b : Nat) : List zO := match b with
  | 0 => zo105_0
  | 1 => zo105_1
  | 2 => zo105_2
  | _ => []
def zo106_0 : List zO := [zldA 0, zoini, zldA 0, zldA 1, zput 7 0 2, zldA 0, zldA 2, zput 7 1 2, zldA 0, zldA 3, zput 7 2 2, zldA 0, zldA 4, zput 7 3 2, zldA 0, zldA 1, zlen, zput 7 4 0, zldA 0, zldI 5, zput 7 5 0, zret 0]
def zt106 (b : Nat) : List zO := match b with
  | 0 => zo106_0
  | _ => []
def zo107_0 : List zO := [zldA 0, zoini, zldA 0, zcI (200), znewa 15, zput 8 0 2, zldA 0, zcI (200), znewa 17, zput 8 1 2, zldA 0, zcI (200), znewa 16, zput 8 2 2, zldA 0, zcI (64), znewa 16, zput 8 3 2, zldA 0, zcI (64), znewa 16, zput 8 4 2, zldA 0, zcI (64), znewa 16, zput 8 5 2, zret 0]
def zt107 (b : Nat) : List zO := match b with
  | 0 => zo107_0
  | _ => []
def zo108_0 : List zO := [zldA 0, zldA 1, zput 8 7 2, zldA 0, zldI 2, zput 8 8 0, zldA 0, zcI (0), zput 8 11 0, zldA 0, zcI (0), zput 8 12 0, zldA 0, zcI (0), zput 8 9 0, zldA 0, zcI (0), zput 8 6 0, zldA 0, zcI (1), zcI (0), zcI (-1), zcal 110 4 1 8, zcI (0), zstI 3, zfal 1]
def zo108_1 : List zO := [zldI 3, zcI (200), zic 4 3, zldA 0, zget 8 6 0, zif 5 3, zldA 0, zcal 111 1 1 8, zstI 4, zldI 4, zif 0 2, zldI 4, zret 1]
def zo108_2 : List zO := [zinc 3 (1), zgo 1]
def zo108_3 : List zO := [zcI (0), zret 1]
def zt108 (b : Nat) : List zO := match b with
  | 0 => zo108_0
  | 1 => zo108_1
  | 2 => zo108_2
  | 3 => zo108_3
  | _ => []
def zo109_0 : List zO := [znew 7 7, zdup, zldA 0, zget 8 0 2, zldA 0, zget 8 12 0, zcal 322 2 0 17, zldA 0, zget 8 1 2, zldA 0, zget 8 12 0, zcal 324 2 0 17, zldA 0, zget 8 2 2, zldA 0, zget 8 12 0, zcal 323 2 0 17, zldA 0, zget 8 7 2, zldA 0, zget 8 11 0, zcal 322 2 0 17, zldA 0, zget 8 9 0, zcal 106 6 2 7, zret 4]
def zt109 (b : Nat) : List zO := match b with
  | 0 => zo109_0
  | _ => []
def zo110_0 : List zO := [zldA 0, zget 8 6 0, zldA 0, zget 8 3 2, zlen, zic 3 1, zldA 0, zget 8 3 2, zldA 0, zget 8 6 0, zldI 1, zast 0, zldA 0, zget 8 4 2, zldA 0, zget 8 6 0, zldI 2, zast 0, zldA 0, zget 8 5 2, zldA 0, zget 8 6 0, zldI 3, zast 0, zldA 0, zdup, zget 8 6 0, zcI (1), zbI 0, zput 8 6 0, zfal 1]
def zo110_1 : List zO := [zret 0]
def zt110 (b : Nat) : List zO := match b with
  | 0 => zo110_0
  | 1 => zo110_1
  | _ => []
def zo111_0 : List zO := [zldA 0, zdup, zget 8 6 0, zcI (1), zbI 1, zput 8 6 0, zldA 0, zget 8 3 2, zldA 0, zget 8 6 0, zald 0, zstI 1, zldA 0, zget 8 4 2, zldA 0, zget 8 6 0, zald 0, zstI 2, zldA 0, zget 8 5 2, zldA 0, zget 8 6 0, zald 0, zstI 3, zldA 0, zget 8 11 0, zldA 0, zget 8 8 0, zic 2 1, zcI (1), zret 1]
def zo111_1 : List zO := [zldA 0, zget 8 7 2, zldA 0, zget 8 11 0, zald 3, zcI (255), zbI 3, zstI 4, zldA 0, zdup, zget 8 11 0, zcI (1), zbI 0, zput 8 11 0, zldI 4, zcI (11), zic 5 2, zcI (3), zret 1]
def zo111_2 : List zO := [zldI 1, zcI (60), zic 5 3, zcI (5), zret 1]
def zo111_3 : List zO := [zldA 0, zget 8 12 0, zcI (200), zic 2 4, zcI (6), zret 1]
def zo111_4 : List zO := [zldA 0, zget 8 12 0, zstI 5, zldA 0, zdup, zget 8 12 0, zcI (1), zbI 0, zput 8 12 0, zldA 0, zldA 0, zget 8 9 0, zldI 1, zcal 317 2 0 16, zput 8 9 0, zldI 3, zcI (-1), zic 0 5, zldA 0, zget 8 2 2, zldI 3, zldI 5, zast 0, zfal 5]
def zo111_5 : List zO := [zldA 0, zget 8 0 2, zldI 5, zldI 4, zun 3, zast 3, zldA 0, zget 8 2 2, zldI 5, zcI (0), zast 0, zldA 0, zcL (0), zput 8 10 1, zldA 0, zldI 4, zldI 2, zldI 5, zcal 113 4 1 8, zstI 6, zldA 0, zget 8 1 2, zldI 5, zldA 0, zget 8 10 1, zast 1, zldA 0, zldI 4, zldI 1, zldI 2, zldI 5, zcal 112 5 1 8, zldI 6, zret 1]
def zt111 (b : Nat) : List zO := match b with
  | 0 => zo111_0
  | 1 => zo111_1
  | 2 => zo111_2
  | 3 => zo111_3
  | 4 => zo111_4
  | 5 => zo111_5
  | _ => []
def zo112_0 : List zO := [zldI 1, zcI (1), zic 1 1, zldA 0, zldI 2, zcI (1), zbI 0, zldI 3, zcI (1), zbI 0, zcI (-1), zcal 110 4 1 8, zgo 4]
def zo112_1 : List zO := [zldI 1, zcI (3), zic 0 2, zldI 1, zcI (4), zic 1 3, zfal 2]
def zo112_2 : List zO := [zldA 0, zldI 2, zcI (1), zbI 0, zldI 3, zcI (-1), zcal 110 4 1 8, zgo 4]
def zo112_3 : List zO := [zldI 1, zcI (2), zic 1 4, zldA 0, zldI 2, zcI (1), zbI 0, zldI 3, zldI 4, zcal 110 4 1 8, zldA 0, zldI 2, zcI (1), zbI 0, zldI 3, zcI (-1), zcal 110 4 1 8, zfal 4]
def zo112_4 : List zO := [zret 0]
def zt112 (b : Nat) : List zO := match b with
  | 0 => zo112_0
  | 1 => zo112_1
  | 2 => zo112_2
  | 3 => zo112_3
  | 4 => zo112_4
  | _ => []
def zo113_0 : List zO := [zldI 1, ztsw 6 (0) [1, 6, 6, 6, 6, 6, 2, 4, 5, 3]]
def zo113_1 : List zO := [zldA 0, zldI 2, zcal 114 2 1 8, zret 1]
def zo113_2 : List zO := [zldA 0, zcI (31), zcal 115 2 1 8, zret 1]
def zo113_3 : List zO := [zldA 0, zcI (1), zcal 115 2 1 8, zret 1]
def zo113_4 : List zO := [zldA 0, zcal 118 1 1 8, zret 1]
def zo113_5 : List zO := [zldA 0, zldI 3, zcal 116 2 1 8, zret 1]
def zo113_6 : List zO := [zcI (0), zret 1]
def zt113 (b : Nat) : List zO := match b with
  | 0 => zo113_0
  | 1 => zo113_1
  | 2 => zo113_2
  | 3 => zo113_3
  | 4 => zo113_4
  | 5 => zo113_5
  | 6 => zo113_6
  | _ => []
def zo114_0 : List zO := [zldA 0, zcal 117 1 1 8, zstI 2, zldI 2, zif 0 1, zldI 2, zret 1]
def zo114_1 : List zO := [zldA 0, zget 8 10 1, zcL (1), zcmp, zif 2 2, zldA 0, zget 8 10 1, zcL (200), zcmp, zif 5 3, zfal 2]
def zo114_2 : List zO := [zcI (3), zret 1]
def zo114_3 : List zO := [zldA 0, zget 8 10 1, zldI 1, zun 1, zcmp, zif 5 4, zcI (4), zgo 5]
def zo114_4 : List zO := [zcI (0), zfal 5]
def zo114_5 : List zO := [zret 1]
def zt114 (b : Nat) : List zO := match b with
  | 0 => zo114_0
  | 1 => zo114_1
  | 2 => zo114_2
  | 3 => zo114_3
  | 4 => zo114_4
  | 5 => zo114_5
  | _ => []
def zo115_0 : List zO := [zldA 0, zget 8 11 0, zldA 0, zget 8 8 0, zic 2 1, zcI (1), zret 1]
def zo115_1 : List zO := [zldA 0, zldA 0, zget 8 7 2, zldA 0, zget 8 11 0, zald 3, zcI (255), zbI 3, zun 1, zput 8 10 1, zldA 0, zdup, zget 8 11 0, zcI (1), zbI 0, zput 8 11 0, zldA 0, zget 8 10 1, zldI 1, zun 1, zcmp, zif 5 2, zcI (3), zgo 3]
def zo115_2 : List zO := [zcI (0), zfal 3]
def zo115_3 : List zO := [zret 1]
def zt115 (b : Nat) : List zO := match b with
  | 0 => zo115_0
  | 1 => zo115_1
  | 2 => zo115_2
  | 3 => zo115_3
  | _ => []
def zo116_0 : List zO := [zldA 0, zcI (64), zcal 115 2 1 8, zstI 2, zldI 2, zif 0 1, zldI 2, zret 1]
def zo116_1 : List zO := [zldA 0, zget 8 2 2, zldI 1, zldA 0, zget 8 11 0, zast 0, zldA 0, zget 8 8 0, zldA 0, zget 8 11 0, zbI 1, zun 1, zldA 0, zget 8 10 1, zcmp, zif 3 2, zcI (1), zret 1]
def zo116_2 : List zO := [zldA 0, zdup, zget 8 11 0, zldA 0, zget 8 10 1, zun 2, zbI 0, zput 8 11 0, zcI (0), zret 1]
def zt116 (b : Nat) : List zO := match b with
  | 0 => zo116_0
  | 1 => zo116_1
  | 2 => zo116_2
  | _ => []
def zo117_0 : List zO := [zcI (0), zstI 1, zfal 1]
def zo117_1 : List zO := [zldI 1, zcI (5), zic 3 9, zldA 0, zget 8 11 0, zldA 0, zget 8 8 0, zic 2 2, zcI (1), zret 1]
def zo117_2 : List zO := [zldA 0, zget 8 7 2, zldA 0, zget 8 11 0, zald 3, zcI (255), zbI 3, zstI 2, zldA 0, zdup, zget 8 11 0, zcI (1), zbI 0, zput 8 11 0, zldA 0, zdup, zget 8 10 1, zldI 2, zcI (127), zbI 3, zun 1, zcI (7), zldI 1, zbI 2, zsL 0, zbL 4, zput 8 10 1, zldI 2, zcI (128), zic 3 8, zldI 1, zif 5 3, zldI 2, zif 1 3, zcI (1), zgo 4]
def zo117_3 : List zO := [zcI (0), zfal 4]
def zo117_4 : List zO := [zstI 3, zldI 3, zif 1 5, zldA 0, zget 8 10 1, zcL (2147483647), zcmp, zif 5 6, zfal 5]
def zo117_5 : List zO := [zcI (2), zgo 7]
def zo117_6 : List zO := [zcI (0), zfal 7]
def zo117_7 : List zO := [zret 1]
def zo117_8 : List zO := [zinc 1 (1), zgo 1]
def zo117_9 : List zO := [zcI (2), zret 1]
def zt117 (b : Nat) : List zO := match b with
  | 0 => zo117_0
  | 1 => zo117_1
  | 2 => zo117_2
  | 3 => zo117_3
  | 4 => zo117_4
  | 5 => zo117_5
  | 6 => zo117_6
  | 7 => zo117_7
  | 8 => zo117_8
  | 9 => zo117_9
  | _ => []
def zo118_0 : List zO := [zcI (0), zstI 1, zcI (0), zstI 2, zfal 1]
def zo118_1 : List zO := [zldI 2, zcI (10), zic 3 7, zldA 0, zget 8 11 0, zldA 0, zget 8 8 0, zic 2 2, zcI (1), zret 1]
def zo118_2 : List zO := [zldA 0, zget 8 7 2, zldA 0, zget 8 11 0, zald 3, zcI (255), zbI 3, zstI 3, zldA 0, zdup, zget 8 11 0, zcI (1), zbI 0, zput 8 11 0, zldA 0, zdup, zget 8 10 1, zldI 3, zcI (127), zbI 3, zun 1, zcI (7), zldI 2, zbI 2, zsL 0, zbL 4, zput 8 10 1, zldI 3, zcI (128), zic 3 6, zldI 2, zcI (9), zic 3 3, zldI 3, zcI (64), zbI 3, zif 0 3, zldA 0, zdup, zget 8 10 1, zcL (-1), zcI (7), zldI 2, zcI (1), zbI 0, zbI 2, zsL 0, zbL 4, zput 8 10 1, zfal 3]
def zo118_3 : List zO := [zldI 3, zldI 1, zldI 2, zcal 119 3 0 8, zif 0 4, zcI (0), zgo 5]
def zo118_4 : List zO := [zcI (2), zfal 5]
def zo118_5 : List zO := [zret 1]
def zo118_6 : List zO := [zldI 3, zstI 1, zinc 2 (1), zgo 1]
def zo118_7 : List zO := [zcI (2), zret 1]
def zt118 (b : Nat) : List zO := match b with
  | 0 => zo118_0
  | 1 => zo118_1
  | 2 => zo118_2
  | 3 => zo118_3
  | 4 => zo118_4
  | 5 => zo118_5
  | 6 => zo118_6
  | 7 => zo118_7
  | _ => []
def zo119_0 : List zO := [zldI 2, zif 1 1, zcI (1), zret 2]
def zo119_1 : List zO := [zldI 2, zcI (9), zic 1 2, zldI 0, zif 0 2, zldI 0, zcI (127), zic 0 2, zcI (0), zret 2]
def zo119_2 : List zO := [zldI 0, zif 1 3, zldI 1, zcI (64), zbI 3, zif 0 4, zfal 3]
def zo119_3 : List zO := [zldI 0, zcI (127), zic 1 5, zldI 1, zcI (64), zbI 3, zif 0 5, zfal 4]
def zo119_4 : List zO := [zcI (1), zgo 6]
def zo119_5 : List zO := [zcI (0), zfal 6]
def zo119_6 : List zO := [zstI 3, zldI 3, zif 1 7, zcI (1), zgo 8]
def zo119_7 : List zO := [zcI (0), zfal 8]
def zo119_8 : List zO := [zret 2]
def zt119 (b : Nat) : List zO := match b with
  | 0 => zo119_0
  | 1 => zo119_1
  | 2 => zo119_2
  | 3 => zo119_3
  | 4 => zo119_4
  | 5 => zo119_5
  | 6 => zo119_6
  | 7 => zo119_7
  | 8 => zo119_8
  | _ => []
def zo120_0 : List zO := [zldA 0, zoini, zldA 0, zcI (8), znewa 16, zput 9 2 2, zldA 0, zcI (8), znewa 16, zput 9 3 2, zldA 0, zcI (8), znewa 16, zput 9 4 2, zldA 0, zcI (8), znewa 16, zput 9 5 2, zldA 0, zcI (8), znewa 19, zput 9 6 2, zldA 0, zcI (8), znewa 16, zput 9 7 2, zldA 0, zcI (8), znewa 16, zput 9 8 2, zldA 0, znew 1 4, zdup, zcI (8), zcal 19 2 2 1, zput 9 9 2, zldA 0, zcI (8), znewa 16, zput 9 10 2, zldA 0, zcI (8), znewa 16, zput 9 11 2, zldA 0, zldA 1, zput 9 0 2, zldA 0, zldA 2, zput 9 1 2, zcI (0), zstI 3, zfal 1]
def zo120_1 : List zO := [zldI 3, zcI (8), zic 3 2, zldA 0, zget 9 6 2, zldI 3, znew 1 4, zdup, zcI (8), zcal 19 2 2 1, zast 2, zinc 3 (1), zgo 1]
def zo120_2 : List zO := [zret 0]
def zt120 (b : Nat) : List zO := match b with
  | 0 => zo120_0
  | 1 => zo120_1
  | 2 => zo120_2
  | _ => []
def zo121_0 : List zO := [zldA 0, zget 9 0 2, zcI (0), zcL (0), zcI (8), zcal 96 4 1 5, zif 1 1, zcI (0), zret 2]
def zo121_1 : List zO := [zcI (1), zstI 2, zcI (0), zstI 3, zfal 2]
def zo121_2 : List zO := [zldI 3, zcI (8), zic 3 3, zldA 0, zget 9 2 2, zldI 3, zldI 2, zast 0, zldA 0, zget 9 0 2, zldI 2, zcal 92 2 1 5, zstI 2, zinc 3 (1), zgo 2]
def zo121_3 : List zO := [zldA 0, zcal 132 1 1 9, zif 0 4, zldA 0, zcal 133 1 1 9, zif 0 4, zldA 0, zldI 1, zcal 135 2 1 9, zif 0 4, zldA 0, zget 9 0 2, zldA 0, zget 9 2 2, zcI (3), zald 0, zcL (0), zcL (4611686018427387904), zcal 94 4 1 5, zif 0 4, zldA 0, zcal 139 1 1 9, zif 0 4, zldA 0, zldI 1, zcal 140 2 1 9, zif 0 4, zldA 0, zcal 141 1 1 9, zif 0 4, zldA 0, zcal 142 1 1 9, zif 0 4, zcI (1), zgo 5]
def zo121_4 : List zO := [zcI (0), zfal 5]
def zo121_5 : List zO := [zret 2]
def zt121 (b : Nat) : List zO := match b with
  | 0 => zo121_0
  | 1 => zo121_1
  | 2 => zo121_2
  | 3 => zo121_3
  | 4 => zo121_4
  | 5 => zo121_5
  | _ => []
def zo122_0 : List zO := [zldA 0, zget 9 0 2, zget 5 1 2, zldA 0, zget 9 2 2, zcI (0), zald 0, zald 0, zret 1]
def zt122 (b : Nat) : List zO := match b with
  | 0 => zo122_0
  | _ => []
def zo123_0 : List zO := [zldA 0, zget 9 0 2, zget 5 4 2, zldA 0, zget 9 3 2, zldI 1, zald 0, zcI (1), zbI 1, zald 1, zret 3]
def zt123 (b : Nat) : List zO := match b with
  | 0 => zo123_0
  | _ => []
def zo124_0 : List zO := [zldI 1, zldA 0, zcal 122 1 1 9, zic 3 1, zldA 0, zget 9 3 2, zldI 1, zald 0, zgo 2]
def zo124_1 : List zO := [zldA 0, zget 9 11 2, zldI 1, zldA 0, zcal 122 1 1 9, zbI 1, zald 0, zfal 2]
def zo124_2 : List zO := [zret 1]
def zt124 (b : Nat) : List zO := match b with
  | 0 => zo124_0
  | 1 => zo124_1
  | 2 => zo124_2
  | _ => []
def zo125_0 : List zO := [zldA 0, zget 9 0 2, zget 5 1 2, zldA 0, zget 9 2 2, zcI (1), zald 0, zald 0, zret 1]
def zt125 (b : Nat) : List zO := match b with
  | 0 => zo125_0
  | _ => []
def zo126_0 : List zO := [zldA 0, zget 9 0 2, zget 5 4 2, zldA 0, zget 9 2 2, zcI (1), zald 0, zcI (1), zbI 0, zldI 1, zbI 0, zald 1, zret 3]
def zt126 (b : Nat) : List zO := match b with
  | 0 => zo126_0
  | _ => []
def zo127_0 : List zO := [zldA 0, zget 9 0 2, zget 5 1 2, zldA 0, zget 9 2 2, zcI (2), zald 0, zald 0, zret 1]
def zt127 (b : Nat) : List zO := match b with
  | 0 => zo127_0
  | _ => []
def zo128_0 : List zO := [zldA 2, zldA 0, zget 9 7 2, zldI 1, zald 0, zldA 0, zget 9 8 2, zldI 1, zald 0, zcal 326 3 0 17, zret 4]
def zt128 (b : Nat) : List zO := match b with
  | 0 => zo128_0
  | _ => []
def zo129_0 : List zO := [zldA 0, zget 9 0 2, zget 5 4 2, zldA 0, zget 9 2 2, zcI (3), zald 0, zald 1, zret 3]
def zt129 (b : Nat) : List zO := match b with
  | 0 => zo129_0
  | _ => []
def zo130_0 : List zO := [zldA 0, zget 9 2 2, zcI (4), zald 0, zstI 2, zldI 1, zun 1, zldA 0, zget 9 0 2, zget 5 4 2, zldI 2, zcI (1), zbI 0, zald 1, zcmp, zif 2 1, zldI 1, zun 1, zldA 0, zget 9 0 2, zget 5 4 2, zldI 2, zcI (2), zbI 0, zald 1, zcmp, zif 4 1, zcI (1), zgo 2]
def zo130_1 : List zO := [zcI (0), zfal 2]
def zo130_2 : List zO := [zret 2]
def zt130 (b : Nat) : List zO := match b with
  | 0 => zo130_0
  | 1 => zo130_1
  | 2 => zo130_2
  | _ => []
def zo131_0 : List zO := [zldA 0, zget 9 2 2, zcI (7), zald 0, zstI 2, zcI (1), zstI 3, zfal 1]
def zo131_1 : List zO := [zldI 3, zldA 0, zget 9 0 2, zget 5 1 2, zldI 2, zald 0, zic 4 3, zldA 0, zget 9 0 2, zget 5 4 2, zldI 2, zldI 3, zbI 0, zald 1, zldI 1, zun 1, zcmp, zif 1 2, zcI (1), zret 2]
def zo131_2 : List zO := [zinc 3 (1), zgo 1]
def zo131_3 : List zO := [zcI (0), zret 2]
def zt131 (b : Nat) : List zO := match b with
  | 0 => zo131_0
  | 1 => zo131_1
  | 2 => zo131_2
  | 3 => zo131_3
  | _ => []
def zo132_0 : List zO := [zldA 0, zget 9 2 2, zcI (0), zald 0, zstI 1, zldA 0, zget 9 0 2, zldI 1, zcI (1), zcI (8), zcal 95 4 1 5, zif 1 1, zcI (0), zret 2]
def zo132_1 : List zO := [zldI 1, zcI (1), zbI 0, zstI 2, zcI (0), zstI 3, zfal 2]
def zo132_2 : List zO := [zldI 3, zldA 0, zget 9 0 2, zget 5 1 2, zldI 1, zald 0, zic 3 5, zldA 0, zget 9 0 2, zldI 2, zcL (0), zcI (2), zcal 96 4 1 5, zif 0 3, zldA 0, zget 9 0 2, zldI 2, zcI (1), zbI 0, zcal 93 2 1 5, zif 1 4, zfal 3]
def zo132_3 : List zO := [zcI (0), zret 2]
def zo132_4 : List zO := [zldA 0, zget 9 3 2, zldI 3, zldI 2, zcI (2), zbI 0, zast 0, zldA 0, zget 9 0 2, zldI 2, zcal 92 2 1 5, zstI 2, zinc 3 (1), zgo 2]
def zo132_5 : List zO := [zcI (1), zret 2]
def zt132 (b : Nat) : List zO := match b with
  | 0 => zo132_0
  | 1 => zo132_1
  | 2 => zo132_2
  | 3 => zo132_3
  | 4 => zo132_4
  | 5 => zo132_5
  | _ => []
def zo133_0 : List zO := [zldA 0, zget 9 2 2, zcI (1), zald 0, zstI 1, zldA 0, zget 9 0 2, zldI 1, zcI (0), zcI (4), zcal 95 4 1 5, zif 0 1, zldA 0, zldI 1, zcal 134 2 1 9, zif 0 1, zcI (1), zgo 2]
def zo133_1 : List zO := [zcI (0), zfal 2]
def zo133_2 : List zO := [zret 2]
def zt133 (b : Nat) : List zO := match b with
  | 0 => zo133_0
  | 1 => zo133_1
  | 2 => zo133_2
  | _ => []
def zo134_0 : List zO := [zcI (1), zstI 2, zfal 1]
def zo134_1 : List zO := [zldI 2, zldA 0, zget 9 0 2, zget 5 1 2, zldI 1, zald 0, zic 4 3, zldA 0, zget 9 0 2, zldI 1, zldI 2, zbI 0, zcal 93 2 1 5, zif 1 2, zcI (0), zret 2]
def zo134_2 : List zO := [zinc 2 (1), zgo 1]
def zo134_3 : List zO := [zcI (1), zret 2]
def zt134 (b : Nat) : List zO := match b with
  | 0 => zo134_0
  | 1 => zo134_1
  | 2 => zo134_2
  | 3 => zo134_3
  | _ => []
def zo135_0 : List zO := [zldA 0, zget 9 2 2, zcI (2), zald 0, zstI 2, zldA 0, zget 9 0 2, zldI 2, zcI (0), zcI (8), zcal 95 4 1 5, zif 1 1, zcI (0), zret 2]
def zo135_1 : List zO := [zldI 2, zcI (1), zbI 0, zstI 3, zcI (0), zstI 4, zfal 2]
def zo135_2 : List zO := [zldI 4, zldA 0, zget 9 0 2, zget 5 1 2, zldI 2, zald 0, zic 3 5, zldA 0, zget 9 0 2, zldI 3, zcL (0), zcI (3), zcal 96 4 1 5, zif 0 3, zldA 0, zldI 4, zldI 3, zcI (1), zbI 0, zldI 1, zcal 136 4 1 9, zif 1 4, zfal 3]
def zo135_3 : List zO := [zcI (0), zret 2]
def zo135_4 : List zO := [zldA 0, zget 9 0 2, zldI 3, zcal 92 2 1 5, zstI 3, zinc 4 (1), zgo 2]
def zo135_5 : List zO := [zcI (1), zret 2]
def zt135 (b : Nat) : List zO := match b with
  | 0 => zo135_0
  | 1 => zo135_1
  | 2 => zo135_2
  | 3 => zo135_3
  | 4 => zo135_4
  | 5 => zo135_5
  | _ => []
def zo136_0 : List zO := [zldA 0, zldI 1, zldI 2, zldI 3, zcal 137 4 1 9, zif 1 1, zcI (0), zret 2]
def zo136_1 : List zO := [zldA 0, zget 9 0 2, zldI 2, zcal 92 2 1 5, zstI 4, zldA 0, zget 9 0 2, zldI 4, zcI (1), zcI (8), zcal 95 4 1 5, zif 0 2, zldA 0, zldI 4, zldA 0, zget 9 6 2, zldI 1, zald 2, zldI 3, zcI (0), zcal 138 5 1 9, zif 1 3, zfal 2]
def zo136_2 : List zO := [zcI (0), zret 2]
def zo136_3 : List zO := [zldA 0, zget 9 0 2, zldI 4, zcal 92 2 1 5, zstI 5, zldA 0, zget 9 7 2, zldI 1, zldA 0, zget 9 1 2, zldI 5, zald 0, zast 0, zldA 0, zget 9 8 2, zldI 1, zldA 0, zget 9 1 2, zldA 0, zget 9 0 2, zldI 5, zcal 92 2 1 5, zald 0, zast 0, zldA 0, zget 9 8 2, zldI 1, zald 0, zldA 0, zget 9 7 2, zldI 1, zald 0, zbI 1, zcI (128), zic 4 4, zcI (1), zgo 5]
def zo136_4 : List zO := [zcI (0), zfal 5]
def zo136_5 : List zO := [zret 2]
def zt136 (b : Nat) : List zO := match b with
  | 0 => zo136_0
  | 1 => zo136_1
  | 2 => zo136_2
  | 3 => zo136_3
  | 4 => zo136_4
  | 5 => zo136_5
  | _ => []
def zo137_0 : List zO := [zldA 0, zget 9 5 2, zldI 1, zldI 2, zast 0, zldA 0, zget 9 0 2, zldI 2, zcL (0), zcI (1), zcal 96 4 1 5, zif 0 1, zldA 0, zget 9 0 2, zldI 2, zcI (1), zbI 0, zcL (0), zcL (255), zcal 94 4 1 5, zif 0 1, zldA 0, zget 9 4 2, zldI 1, zldA 0, zget 9 0 2, zget 5 4 2, zldI 2, zcI (1), zbI 0, zald 1, zun 2, zast 0, zcI (1), zret 2]
def zo137_1 : List zO := [zldA 0, zget 9 0 2, zldI 2, zcL (1), zcI (1), zcal 96 4 1 5, zif 0 2, zldA 0, zget 9 0 2, zldI 2, zcI (1), zbI 0, zcL (0), zldI 3, zcI (1), zbI 1, zun 1, zcal 94 4 1 5, zif 0 2, zldA 0, zget 9 4 2, zldI 1, zcI (256), zldA 0, zget 9 0 2, zget 5 4 2, zldI 2, zcI (1), zbI 0, zald 1, zun 2, zbI 0, zast 0, zcI (1), zret 2]
def zo137_2 : List zO := [zcI (0), zret 2]
def zt137 (b : Nat) : List zO := match b with
  | 0 => zo137_0
  | 1 => zo137_1
  | 2 => zo137_2
  | _ => []
def zo138_0 : List zO := [zldA 2, zcI (0), zput 1 3 0, zldI 1, zcI (1), zbI 0, zstI 5, zcI (0), zstI 6, zfal 1]
def zo138_1 : List zO := [zldI 6, zldA 0, zget 9 0 2, zget 5 1 2, zldI 1, zald 0, zic 3 13, zldA 0, zget 9 0 2, zldI 5, zcI (3), zcI (3), zcal 95 4 1 5, zif 0 2, zldA 0, zldI 5, zcal 134 2 1 9, zif 1 3, zfal 2]
def zo138_2 : List zO := [zcI (0), zret 2]
def zo138_3 : List zO := [zldA 0, zget 9 0 2, zget 5 4 2, zldI 5, zcI (1), zbI 0, zald 1, zstL 7, zldA 0, zget 9 0 2, zget 5 4 2, zldI 5, zcI (2), zbI 0, zald 1, zstL 9, zldA 0, zget 9 0 2, zget 5 4 2, zldI 5, zcI (3), zbI 0, zald 1, zstL 11, zldL 7, zldI 4, zif 0 4, zcI (1), zgo 5]
def zo138_4 : List zO := [zcI (0), zfal 5]
def zo138_5 : List zO := [zun 1, zcmp, zif 2 6, zldL 7, zldI 3, zun 1, zcmp, zif 4 6, zldL 7, zcL (0), zcmp, zif 1 7, zldL 9, zcL (0), zcmp, zif 0 7, zfal 6]
def zo138_6 : List zO := [zcI (0), zret 2]
def zo138_7 : List zO := [zldL 11, zldI 4, zif 0 8, zcL (-4611686018427387904), zgo 9]
def zo138_8 : List zO := [zcL (1), zfal 9]
def zo138_9 : List zO := [zcmp, zif 2 10, zldL 11, zcL (4611686018427387904), zcmp, zif 4 10, zldL 11, zcL (0), zcmp, zif 1 11, zfal 10]
def zo138_10 : List zO := [zcI (0), zret 2]
def zo138_11 : List zO := [zldA 2, zldL 7, zun 2, zldL 9, zldL 11, zcal 26 4 1 1, zif 1 12, zcI (0), zret 2]
def zo138_12 : List zO := [zldA 0, zget 9 0 2, zldI 5, zcal 92 2 1 5, zstI 5, zinc 6 (1), zgo 1]
def zo138_13 : List zO := [zcI (1), zret 2]
def zt138 (b : Nat) : List zO := match b with
  | 0 => zo138_0
  | 1 => zo138_1
  | 2 => zo138_2
  | 3 => zo138_3
  | 4 => zo138_4
  | 5 => zo138_5
  | 6 => zo138_6
  | 7 => zo138_7
  | 8 => zo138_8
  | 9 => zo138_9
  | 10 => zo138_10
  | 11 => zo138_11
  | 12 => zo138_12
  | 13 => zo138_13
  | _ => []
def zo139_0 : List zO := [zldA 0, zget 9 0 2, zldA 0, zget 9 2 2, zcI (4), zald 0, zcI (2), zcI (2), zcal 95 4 1 5, zif 0 1, zldA 0, zldA 0, zget 9 2 2, zcI (4), zald 0, zcal 134 2 1 9, zif 0 1, zcI (1), zgo 2]
def zo139_1 : List zO := [zcI (0), zfal 2]
def zo139_2 : List zO := [zret 2]
def zt139 (b : Nat) : List zO := match b with
  | 0 => zo139_0
  | 1 => zo139_1
  | 2 => zo139_2
  | _ => []
def zo140_0 : List zO := [zldA 0, zget 9 2 2, zcI (5), zald 0, zstI 2, zldA 0, zget 9 0 2, zldI 2, zcI (0), zcI (8), zcal 95 4 1 5, zif 0 1, zldA 0, zldI 2, zldA 0, zget 9 9 2, zldI 1, zcI (1), zcal 138 5 1 9, zif 1 2, zfal 1]
def zo140_1 : List zO := [zcI (0), zret 2]
def zo140_2 : List zO := [zldA 0, zcI (0), zput 9 12 0, zcI (0), zstI 3, zfal 3]
def zo140_3 : List zO := [zldI 3, zldA 0, zget 9 9 2, zget 1 3 0, zic 3 6, zldA 0, zget 9 12 0, zif 0 4, zldA 0, zget 9 10 2, zldA 0, zget 9 12 0, zcI (1), zbI 1, zald 0, zldA 0, zget 9 9 2, zget 1 0 2, zldI 3, zald 0, zic 0 5, zfal 4]
def zo140_4 : List zO := [zldA 0, zget 9 10 2, zldA 0, zget 9 12 0, zldA 0, zget 9 9 2, zget 1 0 2, zldI 3, zald 0, zast 0, zldA 0, zdup, zget 9 12 0, zcI (1), zbI 0, zput 9 12 0, zfal 5]
def zo140_5 : List zO := [zinc 3 (1), zgo 3]
def zo140_6 : List zO := [zcI (1), zret 2]
def zt140 (b : Nat) : List zO := match b with
  | 0 => zo140_0
  | 1 => zo140_1
  | 2 => zo140_2
  | 3 => zo140_3
  | 4 => zo140_4
  | 5 => zo140_5
  | 6 => zo140_6
  | _ => []
def zo141_0 : List zO := [zldA 0, zget 9 2 2, zcI (6), zald 0, zstI 1, zldA 0, zget 9 0 2, zget 5 0 2, zldI 1, zald 3, zcI (5), zic 1 1, zldA 0, zget 9 0 2, zget 5 1 2, zldI 1, zald 0, zcI (2), zldA 0, zget 9 12 0, zbI 2, zic 0 2, zfal 1]
def zo141_1 : List zO := [zcI (0), zret 2]
def zo141_2 : List zO := [zldI 1, zcI (1), zbI 0, zstI 2, zcI (0), zstI 3, zfal 3]
def zo141_3 : List zO := [zldI 3, zldA 0, zget 9 12 0, zic 3 5, zldA 0, zget 9 0 2, zldI 2, zldA 0, zget 9 10 2, zldI 3, zald 0, zun 1, zldA 0, zget 9 10 2, zldI 3, zald 0, zun 1, zcal 94 4 1 5, zif 1 4, zcI (0), zret 2]
def zo141_4 : List zO := [zldA 0, zget 9 11 2, zldI 3, zldI 2, zcI (1), zbI 0, zast 0, zldA 0, zget 9 0 2, zldI 2, zcI (1), zbI 0, zcal 92 2 1 5, zstI 2, zinc 3 (1), zgo 3]
def zo141_5 : List zO := [zcI (1), zret 2]
def zt141 (b : Nat) : List zO := match b with
  | 0 => zo141_0
  | 1 => zo141_1
  | 2 => zo141_2
  | 3 => zo141_3
  | 4 => zo141_4
  | 5 => zo141_5
  | _ => []
def zo142_0 : List zO := [zldA 0, zget 9 2 2, zcI (7), zald 0, zstI 1, zldA 0, zget 9 0 2, zldI 1, zcI (0), zcI (8), zcal 95 4 1 5, zif 1 1, zcI (0), zret 2]
def zo142_1 : List zO := [zcL (0), zstL 2, zcI (1), zstI 4, zfal 2]
def zo142_2 : List zO := [zldI 4, zldA 0, zget 9 0 2, zget 5 1 2, zldI 1, zald 0, zic 4 4, zldA 0, zget 9 0 2, zldI 1, zldI 4, zbI 0, zldL 2, zcL (255), zcal 94 4 1 5, zif 1 3, zcI (0), zret 2]
def zo142_3 : List zO := [zldA 0, zget 9 0 2, zget 5 4 2, zldI 1, zldI 4, zbI 0, zald 1, zcL (1), zbL 0, zstL 2, zinc 4 (1), zgo 2]
def zo142_4 : List zO := [zcI (1), zret 2]
def zt142 (b : Nat) : List zO := match b with
  | 0 => zo142_0
  | 1 => zo142_1
  | 2 => zo142_2
  | 3 => zo142_3
  | 4 => zo142_4
  | _ => []
def zo143_0 : List zO := [zcI (11), zstI 2, zldI 2, zldA 0, zget 9 0 2, zget 5 1 2, zldA 0, zget 9 2 2, zcI (7), zald 0, zald 0, zbI 0, zcI (4), zldA 0, zget 9 9 2, zget 1 3 0, zldA 1, zget 1 3 0, zbI 0, zldA 0, zcal 127 1 1 9, zbI 0, zbI 2, zbI 0, zret 1]
def zt143 (b : Nat) : List zO := match b with
  | 0 => zo143_0
  | _ => []
def zo144_0 : List zO := [zldA 0, zldA 0, zget 9 0 2, zcI (6), zcI (8), zcL (0), zcI (0), zcal 89 5 1 5, zput 9 13 0, zldA 0, zget 9 0 2, zcL (0), zcal 90 2 1 5, zpop, zldA 0, zget 9 0 2, zcL (0), zcal 90 2 1 5, zpop, zldA 0, zcI (3), zcal 145 2 1 9, zldA 0, zcI (4), zcal 145 2 1 9, zldA 0, zcI (7), zcal 145 2 1 9, zldA 0, zcI (5), zcal 145 2 1 9, zldA 0, zldA 1, zcal 147 2 1 9, zldA 0, zcal 148 1 1 9, zldA 0, zget 9 0 2, zldA 0, zget 9 13 0, zcal 91 2 1 5, zret 0]
def zt144 (b : Nat) : List zO := match b with
  | 0 => zo144_0
  | _ => []
def zo145_0 : List zO := [zldA 0, zget 9 0 2, zldA 0, zget 9 2 2, zldI 1, zald 0, zldA 0, zget 9 0 2, zget 5 2 2, zldA 0, zget 9 2 2, zldI 1, zald 0, zald 0, zcal 97 3 1 5, zpop, zret 0]
def zt145 (b : Nat) : List zO := match b with
  | 0 => zo145_0
  | _ => []
def zo146_0 : List zO := [zldI 1, zldA 0, zcal 122 1 1 9, zic 3 1, zcI (1), zgo 2]
def zo146_1 : List zO := [zcI (0), zfal 2]
def zo146_2 : List zO := [zstI 2, zldA 0, zget 9 0 2, zget 5 4 2, zldA 0, zget 9 13 0, zcI (1), zbI 0, zldI 2, zif 0 3, zcL (0), zgo 4]
def zo146_3 : List zO := [zcL (1), zfal 4]
def zo146_4 : List zO := [zast 1, zldA 0, zget 9 0 2, zget 5 4 2, zldA 0, zget 9 13 0, zcI (2), zbI 0, zldI 2, zif 0 5, zldA 0, zldI 1, zcal 123 2 1 9, zgo 6]
def zo146_5 : List zO := [zldA 0, zget 9 10 2, zldI 1, zldA 0, zcal 122 1 1 9, zbI 1, zald 0, zun 1, zfal 6]
def zo146_6 : List zO := [zast 1, zret 0]
def zt146 (b : Nat) : List zO := match b with
  | 0 => zo146_0
  | 1 => zo146_1
  | 2 => zo146_2
  | 3 => zo146_3
  | 4 => zo146_4
  | 5 => zo146_5
  | 6 => zo146_6
  | _ => []
def zo147_0 : List zO := [zldA 0, zget 9 0 2, zcI (4), zldA 1, zget 1 3 0, zcL (0), zcI (0), zcal 89 5 1 5, zstI 2, zcI (0), zstI 3, zfal 1]
def zo147_1 : List zO := [zldI 3, zldA 1, zget 1 3 0, zic 3 2, zldA 0, zget 9 0 2, zcI (4), zcI (3), zcL (0), zcI (0), zcal 89 5 1 5, zstI 4, zldA 0, zget 9 0 2, zldA 1, zget 1 0 2, zldI 3, zald 0, zun 1, zcal 90 2 1 5, zpop, zldA 0, zget 9 0 2, zldA 1, zget 1 1 2, zldI 3, zald 1, zcal 90 2 1 5, zpop, zldA 0, zget 9 0 2, zldA 1, zget 1 2 2, zldI 3, zald 1, zcal 90 2 1 5, zpop, zldA 0, zget 9 0 2, zldI 4, zcal 91 2 1 5, zinc 3 (1), zgo 1]
def zo147_2 : List zO := [zldA 0, zget 9 0 2, zldI 2, zcal 91 2 1 5, zret 0]
def zt147 (b : Nat) : List zO := match b with
  | 0 => zo147_0
  | 1 => zo147_1
  | 2 => zo147_2
  | _ => []
def zo148_0 : List zO := [zldA 0, zget 9 0 2, zcI (4), zldA 0, zcal 127 1 1 9, zcL (0), zcI (0), zcal 89 5 1 5, zstI 1, zcI (0), zstI 2, zfal 1]
def zo148_1 : List zO := [zldI 2, zldA 0, zcal 127 1 1 9, zic 3 2, zldA 0, zget 9 0 2, zcI (6), zcI (2), zcL (0), zcI (0), zcal 89 5 1 5, zstI 3, zldA 0, zget 9 0 2, zldA 0, zget 9 5 2, zldI 2, zald 0, zcI (2), zcal 97 3 1 5, zpop, zldA 0, zget 9 0 2, zldA 0, zget 9 6 2, zldI 2, zald 2, zcI (0), zcL (0), zcal 23 3 1 1, zcal 90 2 1 5, zpop, zldA 0, zget 9 0 2, zldI 3, zcal 91 2 1 5, zinc 2 (1), zgo 1]
def zo148_2 : List zO := [zldA 0, zget 9 0 2, zldI 1, zcal 91 2 1 5, zret 0]
def zt148 (b : Nat) : List zO := match b with
  | 0 => zo148_0
  | 1 => zo148_1
  | 2 => zo148_2
  | _ => []
def zo149_0 : List zO := [zldA 0, zoini, zldA 0, zcI (3201), znewa 15, zput 10 1 2, zldA 0, zcI (3201), znewa 17, zput 10 2 2, zldA 0, zcI (3201), znewa 16, zput 10 3 2, zldA 0, zcI (3201), znewa 16, zput 10 4 2, zldA 0, zcI (3000), znewa 16, zput 10 6 2, zldA 0, zcI (3000), znewa 16, zput 10 7 2, zldA 0, zldA 1, zput 10 0 2, zret 0]
def zt149 (b : Nat) : List zO := match b with
  | 0 => zo149_0
  | _ => []
def zo150_0 : List zO := [zldA 0, zcI (200), zput 10 5 0, zldA 0, zcI (0), zput 10 8 0, zret 0]
def zt150 (b : Nat) : List zO := match b with
  | 0 => zo150_0
  | _ => []
def zo151_0 : List zO := [zldA 0, zget 10 1 2, zldI 1, zldI 2, zun 3, zast 3, zldA 0, zget 10 2 2, zldI 1, zldL 3, zast 1, zldA 0, zget 10 3 2, zldI 1, zldI 5, zast 0, zldA 0, zget 10 4 2, zldI 1, zldI 6, zast 0, zret 0]
def zt151 (b : Nat) : List zO := match b with
  | 0 => zo151_0
  | _ => []
def zo152_0 : List zO := [zldA 0, zget 10 5 0, zcI (3201), zic 3 1, zldA 0, zget 10 5 0, zgo 2]
def zo152_1 : List zO := [zcI (3200), zfal 2]
def zo152_2 : List zO := [zstI 6, zldA 0, zget 10 1 2, zldI 6, zldI 1, zun 3, zast 3, zldA 0, zget 10 2 2, zldI 6, zldL 2, zast 1, zldA 0, zget 10 3 2, zldI 6, zldI 4, zast 0, zldA 0, zget 10 4 2, zldI 6, zldI 5, zast 0, zldA 0, zldI 6, zcI (1), zbI 0, zput 10 5 0, zldI 6, zret 1]
def zt152 (b : Nat) : List zO := match b with
  | 0 => zo152_0
  | 1 => zo152_1
  | 2 => zo152_2
  | _ => []
def zo153_0 : List zO := [zldA 0, zget 10 8 0, zldA 0, zget 10 6 2, zlen, zcI (1), zbI 1, zcal 319 2 0 16, zstI 3, zldA 0, zget 10 6 2, zldI 3, zldI 1, zast 0, zldA 0, zget 10 7 2, zldI 3, zldI 2, zast 0, zldA 0, zldI 3, zcI (1), zbI 0, zput 10 8 0, zldI 3, zret 1]
def zt153 (b : Nat) : List zO := match b with
  | 0 => zo153_0
  | _ => []
def zo154_0 : List zO := [zldI 1, zstI 4, zcL (1), zstL 5, zfal 1]
def zo154_1 : List zO := [zldL 5, zldL 2, zcmp, zif 3 2, zldI 4, zcI (-1), zic 5 2, zldA 0, zget 10 7 2, zldI 4, zald 0, zstI 4, zldL 5, zcL (1), zbL 0, zstL 5, zgo 1]
def zo154_2 : List zO := [zldI 4, zcI (-1), zic 5 3, zldA 0, zget 10 6 2, zldI 4, zald 0, zgo 4]
def zo154_3 : List zO := [zcI (0), zfal 4]
def zo154_4 : List zO := [zret 1]
def zt154 (b : Nat) : List zO := match b with
  | 0 => zo154_0
  | 1 => zo154_1
  | 2 => zo154_2
  | 3 => zo154_3
  | 4 => zo154_4
  | _ => []
def zo155_0 : List zO := [zldA 0, zget 10 1 2, zldI 1, zald 3, zcI (1), zic 1 1, zcI (1), zldA 0, zget 10 4 2, zldI 1, zald 0, zcI (8), zbI 7, zbI 0, zret 1]
def zo155_1 : List zO := [zldA 0, zget 10 1 2, zldI 1, zald 3, zcI (4), zic 1 2, zldA 0, zget 10 3 2, zldI 1, zald 0, zstI 2, zldA 0, zget 10 0 2, zget 5 2 2, zldI 2, zald 0, zldA 0, zget 10 0 2, zldI 2, zcal 99 2 1 5, zcI (8), zbI 7, zbI 0, zret 1]
def zo155_2 : List zO := [zcI (1), zret 1]
def zt155 (b : Nat) : List zO := match b with
  | 0 => zo155_0
  | 1 => zo155_1
  | 2 => zo155_2
  | _ => []
def zo156_0 : List zO := [zldA 0, zoini, zldA 0, znew 5 9, zdup, zcal 88 1 2 5, zput 11 0 2, zldA 0, znew 2 11, zdup, zldA 0, zget 11 0 2, zcal 29 2 2 2, zput 11 1 2, zldA 0, znew 8 13, zdup, zcal 107 1 2 8, zput 11 2 2, zldA 0, znew 9 14, zdup, zldA 0, zget 11 0 2, zldA 0, zget 11 1 2, zget 2 1 2, zcal 120 3 2 9, zput 11 3 2, zldA 0, znew 3 14, zdup, zcI (1), zldI 1, zcI (64), zcal 319 2 0 16, zcal 317 2 0 16, zcal 42 2 2 3, zput 11 4 2, zldA 0, znew 4 18, zdup, zldA 0, zget 11 0 2, zcal 65 2 2 4, zput 11 5 2, zldA 0, zcI (32), znewa 21, zput 11 6 2, zldA 0, zcI (8), znewa 16, zput 11 7 2, zldA 0, zget 11 7 2, zcI (-1), zcal 321 2 0 17, zret 0]
def zt156 (b : Nat) : List zO := match b with
  | 0 => zo156_0
  | _ => []
def zo157_0 : List zO := [zldI 3, zcI (1), zic 2 1, zldI 3, zcI (8), zic 4 1, zldA 0, zget 11 9 0, zcI (4096), zldI 3, zbI 1, zic 5 2, zfal 1]
def zo157_1 : List zO := [zcI (0), zret 2]
def zo157_2 : List zO := [zldI 3, zcI (1), zbI 1, zstI 4, zfal 3]
def zo157_3 : List zO := [zldI 4, zif 2 4, zldA 0, zget 11 0 2, zget 5 5 2, zldA 0, zget 11 9 0, zldL 1, zcI (8), zldI 4, zbI 2, zsL 1, zun 2, zun 3, zast 3, zldA 0, zdup, zget 11 9 0, zcI (1), zbI 0, zput 11 9 0, zinc 4 (-1), zgo 3]
def zo157_4 : List zO := [zcI (1), zret 2]
def zt157 (b : Nat) : List zO := match b with
  | 0 => zo157_0
  | 1 => zo157_1
  | 2 => zo157_2
  | 3 => zo157_3
  | 4 => zo157_4
  | _ => []
def zo158_0 : List zO := [zldA 0, zcI (0), zput 11 9 0, zret 0]
def zt158 (b : Nat) : List zO := match b with
  | 0 => zo158_0
  | _ => []
def zo159_0 : List zO := [zldA 0, zget 11 10 3, zif 1 1, zldI 1, zif 2 1, zldI 1, zcI (256), zic 2 2, zfal 1]
def zo159_1 : List zO := [zcI (-1), zret 1]
def zo159_2 : List zO := [zldA 0, zget 11 4 2, zldI 1, zldL 2, zcal 45 3 1 3, zret 1]
def zt159 (b : Nat) : List zO := match b with
  | 0 => zo159_0
  | 1 => zo159_1
  | 2 => zo159_2
  | _ => []
def zo160_0 : List zO := [zldA 0, zget 11 9 0, zstI 1, zldA 0, zcI (0), zput 11 9 0, zldA 0, zget 11 2 2, zldA 0, zget 11 0 2, zget 5 5 2, zldI 1, zcal 108 3 1 8, zstI 2, zldI 2, zif 0 1, zldI 2, zun 0, zret 1]
def zo160_1 : List zO := [zldA 0, zget 11 2 2, zget 8 11 0, zldI 1, zic 3 2, zcI (-7), zret 1]
def zo160_2 : List zO := [zldA 0, zget 11 2 2, zget 8 12 0, zcI (190), zic 5 3, zcI (-8), zret 1]
def zo160_3 : List zO := [zldA 0, zget 11 8 0, zcI (32), zic 2 4, zcI (-9), zret 1]
def zo160_4 : List zO := [zldA 0, zget 11 6 2, zldA 0, zget 11 8 0, zldA 0, zget 11 2 2, zcal 109 1 1 8, zast 2, zldA 0, zdup, zget 11 8 0, zcI (1), zbI 0, zput 11 8 0, zldA 0, zget 11 8 0, zcI (1), zbI 1, zret 1]
def zt160 (b : Nat) : List zO := match b with
  | 0 => zo160_0
  | 1 => zo160_1
  | 2 => zo160_2
  | 3 => zo160_3
  | 4 => zo160_4
  | _ => []
def zo161_0 : List zO := [zldA 0, zcI (1), zput 11 10 3, zldA 0, zdup, zget 11 11 0, zcI (1), zbI 0, zput 11 11 0, zldA 0, zget 11 7 2, zcI (-1), zcal 321 2 0 17, zldA 0, zget 11 7 2, zcI (2), zcI (0), zast 0, zldA 0, zget 11 7 2, zcI (7), zldA 0, zget 11 9 0, zast 0, zldA 0, zcal 172 1 1 11, zstI 1, zldI 1, zif 1 3, zldA 0, zget 11 3 2, zldA 0, zget 11 8 0, zcal 121 2 1 9, zif 0 1, zldA 0, zget 11 4 2, zldA 0, zget 11 3 2, zldA 0, zget 11 9 0, zcal 49 3 1 3, zgo 2]
def zo161_1 : List zO := [zcI (7), zfal 2]
def zo161_2 : List zO := [zstI 1, zfal 3]
def zo161_3 : List zO := [zldI 1, zif 1 4, zldA 0, zget 11 4 2, zldA 0, zget 11 3 2, zcal 50 2 1 3, zif 0 4, zldA 0, zcal 173 1 1 11, zstI 1, zfal 4]
def zo161_4 : List zO := [zldI 1, zif 1 5, zldA 0, zget 11 4 2, zldA 0, zget 11 3 2, zldA 0, zget 11 0 2, zget 5 5 2, zcal 60 3 1 3, zgo 6]
def zo161_5 : List zO := [zldI 1, zcI (20), zic 1 6, zldA 0, zget 11 4 2, zldA 0, zget 11 3 2, zcal 61 2 1 3, zfal 6]
def zo161_6 : List zO := [zldA 0, zget 11 7 2, zcI (0), zldI 1, zast 0, zldA 0, zcI (0), zput 11 9 0, zldI 1, zret 1]
def zt161 (b : Nat) : List zO := match b with
  | 0 => zo161_0
  | 1 => zo161_1
  | 2 => zo161_2
  | 3 => zo161_3
  | 4 => zo161_4
  | 5 => zo161_5
  | 6 => zo161_6
  | _ => []
def zo162_0 : List zO := [zldA 0, zcI (1), zput 11 10 3, zldA 0, zget 11 4 2, zcal 63 1 1 3, zret 1]
def zt162 (b : Nat) : List zO := match b with
  | 0 => zo162_0
  | _ => []
def zo163_0 : List zO := [zldA 0, zcI (1), zput 11 10 3, zldA 0, zget 11 4 2, zldI 1, zcal 64 2 1 3, zret 1]
def zt163 (b : Nat) : List zO := match b with
  | 0 => zo163_0
  | _ => []
def zo164_0 : List zO := [zldA 0, zget 11 4 2, zldI 1, zun 1, zcal 43 2 1 3, zstA 3, zldA 3, zjnn 1, zcI (-1), zret 1]
def zo164_1 : List zO := [zldI 2, ztsw 10 (0) [2, 3, 6, 7, 8, 9]]
def zo164_2 : List zO := [zldA 3, zget 6 0 0, zret 1]
def zo164_3 : List zO := [zldA 3, zcal 105 1 1 6, zif 0 4, zcI (1), zgo 5]
def zo164_4 : List zO := [zcI (0), zfal 5]
def zo164_5 : List zO := [zret 1]
def zo164_6 : List zO := [zldA 3, zget 6 3 0, zret 1]
def zo164_7 : List zO := [zldA 3, zget 6 4 0, zret 1]
def zo164_8 : List zO := [zldA 3, zget 6 1 2, zget 1 3 0, zret 1]
def zo164_9 : List zO := [zldA 3, zget 6 2 2, zlen, zret 1]
def zo164_10 : List zO := [zcI (-1), zret 1]
def zt164 (b : Nat) : List zO := match b with
  | 0 => zo164_0
  | 1 => zo164_1
  | 2 => zo164_2
  | 3 => zo164_3
  | 4 => zo164_4
  | 5 => zo164_5
  | 6 => zo164_6
  | 7 => zo164_7
  | 8 => zo164_8
  | 9 => zo164_9
  | 10 => zo164_10
  | _ => []
def zo165_0 : List zO := [zldA 0, zget 11 4 2, zldI 1, zun 1, zcal 43 2 1 3, zstA 4, zldA 4, zjn 1, zldI 2, zif 2 1, zldI 2, zldA 4, zget 6 1 2, zget 1 3 0, zic 3 1, zldI 3, zif 2 1, zldI 3, zcI (2), zic 5 2, zfal 1]
def zo165_1 : List zO := [zthr 41, zdup, zbad, zbad]
def zo165_2 : List zO := [zldI 3, zif 1 3, zldA 4, zget 6 1 2, zget 1 0 2, zldI 2, zald 0, zun 1, zret 3]
def zo165_3 : List zO := [zldI 3, zcI (1), zic 1 4, zldA 4, zget 6 1 2, zget 1 1 2, zldI 2, zald 1, zgo 5]
def zo165_4 : List zO := [zldA 4, zget 6 1 2, zget 1 2 2, zldI 2, zald 1, zfal 5]
def zo165_5 : List zO := [zret 3]
def zt165 (b : Nat) : List zO := match b with
  | 0 => zo165_0
  | 1 => zo165_1
  | 2 => zo165_2
  | 3 => zo165_3
  | 4 => zo165_4
  | 5 => zo165_5
  | _ => []
def zo166_0 : List zO := [zldA 0, zget 11 4 2, zldI 1, zun 1, zcal 43 2 1 3, zstA 3, zldA 3, zjn 1, zldI 2, zif 2 1, zldI 2, zldA 3, zget 6 2 2, zlen, zic 2 2, zfal 1]
def zo166_1 : List zO := [zcI (-1), zret 1]
def zo166_2 : List zO := [zldA 3, zget 6 2 2, zldI 2, zald 3, zcI (255), zbI 3, zret 1]
def zt166 (b : Nat) : List zO := match b with
  | 0 => zo166_0
  | 1 => zo166_1
  | 2 => zo166_2
  | _ => []
def zo167_0 : List zO := [zldA 0, zget 11 4 2, zldI 1, zldL 2, zcal 46 3 1 3, zstL 4, zldI 1, zif 1 1, zldL 2, zcL (0), zcmp, zif 1 1, zldL 4, zldA 0, zget 11 4 2, zget 3 6 1, zbL 0, zgo 2]
def zo167_1 : List zO := [zldL 4, zfal 2]
def zo167_2 : List zO := [zret 3]
def zt167 (b : Nat) : List zO := match b with
  | 0 => zo167_0
  | 1 => zo167_1
  | 2 => zo167_2
  | _ => []
def zo168_0 : List zO := [zldA 0, zget 11 4 2, zldI 1, zldI 2, zcal 48 3 1 3, zret 1]
def zt168 (b : Nat) : List zO := match b with
  | 0 => zo168_0
  | _ => []
def zo169_0 : List zO := [zldI 1, zif 2 1, zldI 1, zcI (7), zic 5 2, zfal 1]
def zo169_1 : List zO := [zcI (-1), zgo 3]
def zo169_2 : List zO := [zldA 0, zget 11 7 2, zldI 1, zald 0, zfal 3]
def zo169_3 : List zO := [zret 1]
def zt169 (b : Nat) : List zO := match b with
  | 0 => zo169_0
  | 1 => zo169_1
  | 2 => zo169_2
  | 3 => zo169_3
  | _ => []
def zo170_0 : List zO := [zldA 0, zldI 1, zcal 174 2 1 11, zstA 3, zldA 3, zjnn 1, zcI (-1), zret 1]
def zo170_1 : List zO := [zldI 2, ztsw 6 (0) [2, 3, 4, 5]]
def zo170_2 : List zO := [zldA 3, zget 7 4 0, zret 1]
def zo170_3 : List zO := [zldA 3, zget 7 5 0, zret 1]
def zo170_4 : List zO := [zldA 3, zget 7 3 2, zlen, zret 1]
def zo170_5 : List zO := [zldA 3, zget 7 6 0, zret 1]
def zo170_6 : List zO := [zcI (-1), zret 1]
def zt170 (b : Nat) : List zO := match b with
  | 0 => zo170_0
  | 1 => zo170_1
  | 2 => zo170_2
  | 3 => zo170_3
  | 4 => zo170_4
  | 5 => zo170_5
  | 6 => zo170_6
  | _ => []
def zo171_0 : List zO := [zldI 1, ztsw 12 (0) [1, 2, 3, 4, 5, 6, 7, 8, 9, 10, 11]]
def zo171_1 : List zO := [zldA 0, zget 11 4 2, zget 3 6 1, zret 3]
def zo171_2 : List zO := [zldA 0, zget 11 4 2, zget 3 4 0, zun 1, zret 3]
def zo171_3 : List zO := [zldA 0, zget 11 4 2, zget 3 2 0, zun 1, zret 3]
def zo171_4 : List zO := [zldA 0, zget 11 4 2, zcal 47 1 1 3, zun 1, zret 3]
def zo171_5 : List zO := [zldA 0, zget 11 4 2, zget 3 5 0, zun 1, zret 3]
def zo171_6 : List zO := [zldA 0, zget 11 8 0, zun 1, zret 3]
def zo171_7 : List zO := [zldA 0, zget 11 9 0, zun 1, zret 3]
def zo171_8 : List zO := [zldA 0, zget 11 4 2, zget 3 7 0, zun 1, zret 3]
def zo171_9 : List zO := [zldA 0, zget 11 4 2, zget 3 8 0, zun 1, zret 3]
def zo171_10 : List zO := [zldA 0, zget 11 11 0, zun 1, zret 3]
def zo171_11 : List zO := [zldA 0, zget 11 12 1, zret 3]
def zo171_12 : List zO := [zcL (-1), zret 3]
def zt171 (b : Nat) : List zO := match b with
  | 0 => zo171_0
  | 1 => zo171_1
  | 2 => zo171_2
  | 3 => zo171_3
  | 4 => zo171_4
  | 5 => zo171_5
  | 6 => zo171_6
  | 7 => zo171_7
  | 8 => zo171_8
  | 9 => zo171_9
  | 10 => zo171_10
  | 11 => zo171_11
  | 12 => zo171_12
  | _ => []
def zo172_0 : List zO := [zldA 0, zget 11 0 2, zcI (0), zput 5 7 0, zldA 0, zget 11 1 2, zcI (0), zldA 0, zget 11 9 0, zcal 30 3 1 2, zstI 1, zldI 1, zif 0 1, zldA 0, zget 11 7 2, zcI (1), zldA 0, zget 11 1 2, zget 2 10 0, zast 0, zldI 1, zret 1]
def zo172_1 : List zO := [zldA 0, zget 11 1 2, zget 2 9 0, zldA 0, zget 11 9 0, zic 3 2, zcI (6), zgo 3]
def zo172_2 : List zO := [zcI (0), zfal 3]
def zo172_3 : List zO := [zret 1]
def zt172 (b : Nat) : List zO := match b with
  | 0 => zo172_0
  | 1 => zo172_1
  | 2 => zo172_2
  | 3 => zo172_3
  | _ => []
def zo173_0 : List zO := [zldA 0, zget 11 3 2, zldA 0, zget 11 4 2, zget 3 12 2, zcal 144 2 1 9, zldA 0, zget 11 0 2, zget 5 7 0, zstI 1, zldA 0, zget 11 3 2, zcal 122 1 1 9, zstI 2, zcI (0), zstI 3, zfal 1]
def zo173_1 : List zO := [zldI 3, zldI 2, zldA 0, zget 11 3 2, zget 9 12 0, zbI 0, zic 3 7, zldI 3, zldI 2, zic 3 2, zldA 0, zldI 3, zcal 175 2 1 11, zgo 3]
def zo173_2 : List zO := [zldA 0, zldA 0, zget 11 3 2, zget 9 10 2, zldI 3, zldI 2, zbI 1, zald 0, zcI (1), zbI 1, zcal 174 2 1 11, zfal 3]
def zo173_3 : List zO := [zstA 4, zldA 4, zjn 6, zldA 0, zget 11 0 2, zldI 1, zput 5 7 0, zldI 3, zldI 2, zic 3 4, zldA 0, zldA 0, zget 11 3 2, zldI 3, zcal 123 2 1 9, zcal 176 2 1 11, zgo 5]
def zo173_4 : List zO := [zcI (-1), zfal 5]
def zo173_5 : List zO := [zstI 5, zldA 0, zget 11 3 2, zldI 3, zcal 146 2 1 9, zldA 0, zget 11 5 2, zldA 4, zldI 5, zldA 0, zget 11 3 2, zldI 3, zcal 124 2 1 9, zldA 0, zget 11 3 2, zget 9 13 0, zcal 66 5 1 4, zldA 0, zget 11 5 2, zcal 69 1 1 4, zldA 0, zldA 4, zcal 177 2 1 11, zldA 0, zget 11 5 2, zcal 71 1 1 4, zif 1 6, zcI (20), zret 1]
def zo173_6 : List zO := [zinc 3 (1), zgo 1]
def zo173_7 : List zO := [zcI (0), zret 1]
def zt173 (b : Nat) : List zO := match b with
  | 0 => zo173_0
  | 1 => zo173_1
  | 2 => zo173_2
  | 3 => zo173_3
  | 4 => zo173_4
  | 5 => zo173_5
  | 6 => zo173_6
  | 7 => zo173_7
  | _ => []
def zo174_0 : List zO := [zldI 1, zif 2 1, zldI 1, zldA 0, zget 11 8 0, zic 2 2, zfal 1]
def zo174_1 : List zO := [znul, zgo 3]
def zo174_2 : List zO := [zldA 0, zget 11 6 2, zldI 1, zald 2, zfal 3]
def zo174_3 : List zO := [zret 4]
def zt174 (b : Nat) : List zO := match b with
  | 0 => zo174_0
  | 1 => zo174_1
  | 2 => zo174_2
  | 3 => zo174_3
  | _ => []
def zo175_0 : List zO := [zldA 0, zget 11 4 2, zldA 0, zget 11 3 2, zldI 1, zcal 123 2 1 9, zcal 43 2 1 3, zstA 2, zldA 2, zjnn 1, znul, zgo 2]
def zo175_1 : List zO := [zldA 0, zldA 2, zget 6 0 0, zcI (256), zbI 1, zcal 174 2 1 11, zfal 2]
def zo175_2 : List zO := [zret 4]
def zt175 (b : Nat) : List zO := match b with
  | 0 => zo175_0
  | 1 => zo175_1
  | 2 => zo175_2
  | _ => []
def zo176_0 : List zO := [zldA 0, zget 11 0 2, zget 5 7 0, zstI 3, zldA 0, zget 11 4 2, zldL 1, zcal 43 2 1 3, zstA 4, zldA 4, zjn 1, zldA 4, zget 6 2 2, zcI (0), zldA 0, zget 11 0 2, zget 5 5 2, zcI (4096), zldA 4, zget 6 2 2, zlen, zacp, zldA 0, zget 11 1 2, zcI (4096), zcI (4096), zldA 4, zget 6 2 2, zlen, zbI 0, zcal 30 3 1 2, zpop, zfal 1]
def zo176_1 : List zO := [zldI 3, zret 1]
def zt176 (b : Nat) : List zO := match b with
  | 0 => zo176_0
  | 1 => zo176_1
  | _ => []
def zo177_0 : List zO := [zldA 1, zdup, zget 7 6 0, zcI (1), zbI 0, zput 7 6 0, zldA 0, zdup, zget 11 12 1, zldA 0, zget 11 5 2, zget 4 16 0, zun 1, zbL 0, zput 11 12 1, zldA 0, zget 11 7 2, zcI (2), zdup2, zald 0, zcI (1), zbI 0, zast 0, zldA 0, zget 11 7 2, zcI (3), zldA 0, zget 11 5 2, zget 4 15 0, zast 0, zldA 0, zget 11 7 2, zcI (4), zldA 0, zget 11 5 2, zget 4 16 0, zast 0, zldA 0, zget 11 7 2, zcI (5), zldA 0, zget 11 5 2, zget 4 17 0, zast 0, zldA 0, zget 11 7 2, zcI (6), zldA 0, zget 11 5 2, zcal 70 1 1 4, zast 0, zret 0]
def zt177 (b : Nat) : List zO := match b with
  | 0 => zo177_0
  | _ => []
def zo178_0 : List zO := [zldA 0, zoini, zldA 0, zcI (200), znewa 16, zput 12 1 2, zldA 0, zcI (200), znewa 17, zput 12 2 2, zldA 0, zcI (200), znewa 16, zput 12 3 2, zldA 0, zcI (200), znewa 16, zput 12 4 2, zldA 0, zcI (200), znewa 16, zput 12 5 2, zldA 0, zcI (12800), znewa 15, zput 12 6 2, zldA 0, zcI (200), znewa 16, zput 12 8 2, zldA 0, zcI (3700), znewa 16, zput 12 10 2, zldA 0, zcI (3700), znewa 17, zput 12 11 2, zldA 0, zcI (3700), znewa 16, zput 12 12 2, zldA 0, zcI (3700), znewa 16, zput 12 13 2, zldA 0, zcI (3700), znewa 16, zput 12 14 2, zldA 0, zcI (3700), znewa 16, zput 12 15 2, zldA 0, zcI (3700), znewa 16, zput 12 16 2, zldA 0, zcI (3700), znewa 16, zput 12 17 2, zldA 0, zcI (3700), znewa 16, zput 12 18 2, zldA 0, zcI (70000), znewa 15, zput 12 20 2, zldA 0, zcI (5000), znewa 16, zput 12 22 2, zldA 0, zcI (5000), znewa 17, zput 12 23 2, zldA 0, zcI (5000), znewa 16, zput 12 24 2, zldA 0, zcI (5000), znewa 16, zput 12 25 2, zldA 0, zcI (700000), znewa 16, zput 12 27 2, zldA 0, zcI (3200), znewa 16, zput 12 29 2, zldA 0, zcI (3200), znewa 16, zput 12 30 2, zldA 0, zcI (200), znewa 16, zput 12 32 2, zldA 0, zcI (400), znewa 16, zput 12 33 2, zldA 0, zcI (400), znewa 16, zput 12 34 2, zldA 0, zcI (400), znewa 16, zput 12 35 2, zldA 0, zcI (3), znewa 16, zput 12 38 2, zldA 0, zcI (600), znewa 16, zput 12 39 2, zldA 0, zcI (600), znewa 17, zput 12 40 2, zldA 0, zcI (600), znewa 16, zput 12 41 2, zldA 0, zcI (600), znewa 16, zput 12 42 2, zldA 0, zcI (12288), znewa 15, zput 12 43 2, zldA 0, zcI (-1), zput 12 44 0, zldA 0, zcI (3), znewa 16, zput 12 54 2, zldA 0, zcI (200), znewa 16, zput 12 55 2, zldA 0, zcI (220), znewa 16, zput 12 57 2, zret 0]
def zt178 (b : Nat) : List zO := match b with
  | 0 => zo178_0
  | _ => []
def zo179_0 : List zO := [zldI 0, zcI (2), zic 1 1, zcI (2), zgo 4]
def zo179_1 : List zO := [zldI 0, zcI (1), zic 0 2, zldI 0, zcI (3), zic 0 2, zldI 0, zcI (4), zic 1 3, zfal 2]
def zo179_2 : List zO := [zcI (1), zgo 4]
def zo179_3 : List zO := [zcI (0), zfal 4]
def zo179_4 : List zO := [zret 1]
def zt179 (b : Nat) : List zO := match b with
  | 0 => zo179_0
  | 1 => zo179_1
  | 2 => zo179_2
  | 3 => zo179_3
  | 4 => zo179_4
  | _ => []
def zo180_0 : List zO := [zldI 0, zcI (7), zic 0 4, zldI 0, zif 1 1, zldL 1, zcL (1), zcmp, zif 2 5, zldL 1, zcL (200), zcmp, zif 4 5, zgo 4]
def zo180_1 : List zO := [zldI 0, zcI (6), zic 1 2, zldL 1, zcL (0), zcmp, zif 2 5, zldL 1, zcL (31), zcmp, zif 4 5, zgo 4]
def zo180_2 : List zO := [zldI 0, zcI (9), zic 1 3, zldL 1, zcL (0), zcmp, zif 0 4, zldL 1, zcL (1), zcmp, zif 1 5, zgo 4]
def zo180_3 : List zO := [zldL 1, zcL (0), zcmp, zif 1 5, zfal 4]
def zo180_4 : List zO := [zcI (1), zgo 6]
def zo180_5 : List zO := [zcI (0), zfal 6]
def zo180_6 : List zO := [zret 2]
def zt180 (b : Nat) : List zO := match b with
  | 0 => zo180_0
  | 1 => zo180_1
  | 2 => zo180_2
  | 3 => zo180_3
  | 4 => zo180_4
  | 5 => zo180_5
  | 6 => zo180_6
  | _ => []
def zo181_0 : List zO := [zldA 0, zcI (0), zput 12 0 0, zldA 0, zcI (0), zput 12 7 0, zldA 0, zcI (0), zput 12 9 0, zret 0]
def zt181 (b : Nat) : List zO := match b with
  | 0 => zo181_0
  | _ => []
def zo182_0 : List zO := [zldA 0, zldI 1, zif 2 1, zldI 1, zcI (11), zic 4 1, zldI 1, zcI (8), zic 0 1, zldI 1, zldL 2, zcal 180 2 0 12, zif 1 2, zfal 1]
def zo182_1 : List zO := [zcI (1), zgo 3]
def zo182_2 : List zO := [zcI (0), zfal 3]
def zo182_3 : List zO := [zput 12 0 0, zldA 0, zget 12 0 0, zif 5 4, zcI (0), zret 1]
def zo182_4 : List zO := [zldA 0, zldA 0, zget 12 9 0, zldI 1, zcal 179 1 0 12, zic 2 5, zldA 0, zget 12 7 0, zcI (200), zic 1 6, zfal 5]
def zo182_5 : List zO := [zcI (2), zgo 7]
def zo182_6 : List zO := [zcI (0), zfal 7]
def zo182_7 : List zO := [zput 12 0 0, zldA 0, zget 12 0 0, zif 5 8, zcI (0), zret 1]
def zo182_8 : List zO := [zldA 0, zget 12 7 0, zstI 4, zldA 0, zdup, zget 12 7 0, zcI (1), zbI 0, zput 12 7 0, zldA 0, zget 12 1 2, zldI 4, zldI 1, zast 0, zldA 0, zget 12 2 2, zldI 4, zldL 2, zast 1, zldA 0, zget 12 3 2, zldI 4, zcI (-1), zast 0, zldA 0, zget 12 4 2, zldI 4, zcI (-1), zast 0, zldA 0, zget 12 5 2, zldI 4, zcI (1), zast 0, zldI 1, zcal 179 1 0 12, zcI (2), zic 1 9, zldA 0, zdup, zget 12 9 0, zcI (1), zbI 1, zput 12 9 0, zldA 0, zget 12 4 2, zldI 4, zldA 0, zget 12 8 2, zldA 0, zget 12 9 0, zald 0, zast 0, zldA 0, zget 12 5 2, zldI 4, zdup2, zald 0, zldA 0, zget 12 5 2, zldA 0, zget 12 8 2, zldA 0, zget 12 9 0, zald 0, zald 0, zbI 0, zast 0, zfal 9]
def zo182_9 : List zO := [zldI 1, zcal 179 1 0 12, zif 5 10, zldA 0, zdup, zget 12 9 0, zcI (1), zbI 1, zput 12 9 0, zldA 0, zget 12 3 2, zldI 4, zldA 0, zget 12 8 2, zldA 0, zget 12 9 0, zald 0, zast 0, zldA 0, zget 12 5 2, zldI 4, zdup2, zald 0, zldA 0, zget 12 5 2, zldA 0, zget 12 8 2, zldA 0, zget 12 9 0, zald 0, zald 0, zbI 0, zast 0, zfal 10]
def zo182_10 : List zO := [zldA 0, zget 12 8 2, zldA 0, zget 12 9 0, zldI 4, zast 0, zldA 0, zdup, zget 12 9 0, zcI (1), zbI 0, zput 12 9 0, zldA 0, zget 12 9 0, zret 1]
def zt182 (b : Nat) : List zO := match b with
  | 0 => zo182_0
  | 1 => zo182_1
  | 2 => zo182_2
  | 3 => zo182_3
  | 4 => zo182_4
  | 5 => zo182_5
  | 6 => zo182_6
  | 7 => zo182_7
  | 8 => zo182_8
  | 9 => zo182_9
  | 10 => zo182_10
  | _ => []
def zo183_0 : List zO := [zldI 4, zcI (1), zbI 1, zstI 5, zfal 1]
def zo183_1 : List zO := [zldI 5, zif 2 2, zldA 0, zget 12 6 2, zcI (64), zldI 1, zbI 2, zldA 0, zget 12 2 2, zldI 1, zald 1, zun 2, zbI 0, zldL 2, zcI (8), zldI 5, zbI 2, zsL 1, zun 2, zun 3, zast 3, zldA 0, zget 12 2 2, zldI 1, zdup2, zald 1, zcL (1), zbL 0, zast 1, zinc 5 (-1), zgo 1]
def zo183_2 : List zO := [zret 0]
def zt183 (b : Nat) : List zO := match b with
  | 0 => zo183_0
  | 1 => zo183_1
  | 2 => zo183_2
  | _ => []
def zo184_0 : List zO := [zldA 0, zldI 3, zif 2 1, zldI 3, zcI (8), zic 5 2, zfal 1]
def zo184_1 : List zO := [zcI (1), zgo 4]
def zo184_2 : List zO := [zldA 0, zget 12 7 0, zcI (200), zic 1 3, zcI (2), zgo 4]
def zo184_3 : List zO := [zcI (0), zfal 4]
def zo184_4 : List zO := [zput 12 0 0, zldA 0, zget 12 0 0, zif 5 5, zcI (0), zret 1]
def zo184_5 : List zO := [zldA 0, zget 12 7 0, zstI 4, zldA 0, zdup, zget 12 7 0, zcI (1), zbI 0, zput 12 7 0, zldA 0, zget 12 1 2, zldI 4, zcI (8), zast 0, zldA 0, zget 12 2 2, zldI 4, zcL (0), zast 1, zldA 0, zget 12 3 2, zldI 4, zcI (-1), zast 0, zldA 0, zget 12 4 2, zldI 4, zcI (-1), zast 0, zldA 0, zget 12 5 2, zldI 4, zcI (1), zast 0, zldA 0, zldI 4, zldL 1, zldI 3, zcal 183 4 1 12, zldA 0, zget 12 8 2, zldA 0, zget 12 9 0, zldI 4, zast 0, zldA 0, zdup, zget 12 9 0, zcI (1), zbI 0, zput 12 9 0, zldA 0, zget 12 9 0, zret 1]
def zt184 (b : Nat) : List zO := match b with
  | 0 => zo184_0
  | 1 => zo184_1
  | 2 => zo184_2
  | 3 => zo184_3
  | 4 => zo184_4
  | 5 => zo184_5
  | _ => []
def zo185_0 : List zO := [zldA 0, zget 12 7 0, zstI 2, zldA 0, zdup, zget 12 7 0, zcI (1), zbI 0, zput 12 7 0, zldA 0, zget 12 1 2, zldI 2, zcI (12), zast 0, zldA 0, zget 12 2 2, zldI 2, zldI 1, zun 1, zast 1, zldA 0, zget 12 3 2, zldI 2, zcI (-1), zast 0, zldA 0, zget 12 4 2, zldI 2, zcI (-1), zast 0, zldA 0, zget 12 5 2, zldI 2, zcI (1), zast 0, zldA 0, zget 12 8 2, zldA 0, zget 12 9 0, zldI 2, zast 0, zldA 0, zdup, zget 12 9 0, zcI (1), zbI 0, zput 12 9 0, zldA 0, zget 12 9 0, zret 1]
def zt185 (b : Nat) : List zO := match b with
  | 0 => zo185_0
  | _ => []
def zo186_0 : List zO := [zldA 0, zcI (0), zput 12 0 0, zldA 0, zget 12 9 0, zif 1 1, zcI (0), zgo 2]
def zo186_1 : List zO := [zldA 0, zget 12 8 2, zldA 0, zget 12 9 0, zcI (1), zbI 1, zald 0, zfal 2]
def zo186_2 : List zO := [zstI 4, zldA 0, zget 12 9 0, zif 0 3, zldA 0, zget 12 1 2, zldI 4, zald 0, zcI (8), zic 1 3, zldI 3, zcI (1), zic 2 3, zldI 3, zcI (8), zic 4 3, zldA 0, zget 12 2 2, zldI 4, zald 1, zldI 3, zun 1, zbL 0, zcL (64), zcmp, zif 5 4, zfal 3]
def zo186_3 : List zO := [zcI (0), zret 2]
def zo186_4 : List zO := [zldA 0, zldI 4, zldL 1, zldI 3, zcal 183 4 1 12, zcI (1), zret 2]
def zt186 (b : Nat) : List zO := match b with
  | 0 => zo186_0
  | 1 => zo186_1
  | 2 => zo186_2
  | 3 => zo186_3
  | 4 => zo186_4
  | _ => []
def zo187_0 : List zO := [zldA 0, zget 12 8 2, zldA 0, zget 12 9 0, zcI (1), zbI 1, zald 0, zstI 1, zldI 1, zldA 0, zget 12 5 2, zldI 1, zald 0, zbI 1, zcI (1), zbI 0, zstI 2, zfal 1]
def zo187_1 : List zO := [zldI 2, zldI 1, zic 4 11, zldA 0, zget 12 3 2, zldI 2, zald 0, zif 3 2, zcI (0), zgo 3]
def zo187_2 : List zO := [zldA 0, zget 12 55 2, zldA 0, zget 12 3 2, zldI 2, zald 0, zald 0, zfal 3]
def zo187_3 : List zO := [zstI 3, zldA 0, zget 12 4 2, zldI 2, zald 0, zif 3 4, zcI (0), zgo 5]
def zo187_4 : List zO := [zldA 0, zget 12 55 2, zldA 0, zget 12 4 2, zldI 2, zald 0, zald 0, zfal 5]
def zo187_5 : List zO := [zstI 4, zldI 3, zldI 4, zic 5 6, zldI 3, zgo 7]
def zo187_6 : List zO := [zldI 4, zfal 7]
def zo187_7 : List zO := [zstI 5, zldA 0, zget 12 55 2, zldI 2, zldA 0, zget 12 1 2, zldI 2, zald 0, zif 1 8, zldA 0, zget 12 2 2, zldI 2, zald 1, zun 2, zgo 10]
def zo187_8 : List zO := [zldA 0, zget 12 1 2, zldI 2, zald 0, zcI (1), zic 1 9, zldI 5, zif 5 9, zldI 5, zcI (1), zbI 1, zgo 10]
def zo187_9 : List zO := [zldI 5, zfal 10]
def zo187_10 : List zO := [zast 0, zinc 2 (1), zgo 1]
def zo187_11 : List zO := [zldA 0, zget 12 55 2, zldI 1, zald 0, zret 1]
def zt187 (b : Nat) : List zO := match b with
  | 0 => zo187_0
  | 1 => zo187_1
  | 2 => zo187_2
  | 3 => zo187_3
  | 4 => zo187_4
  | 5 => zo187_5
  | 6 => zo187_6
  | 7 => zo187_7
  | 8 => zo187_8
  | 9 => zo187_9
  | 10 => zo187_10
  | 11 => zo187_11
  | _ => []
def zo188_0 : List zO := [zldA 0, zget 12 10 2, zldA 0, zget 12 19 0, zldI 1, zast 0, zldA 0, zget 12 11 2, zldA 0, zget 12 19 0, zldL 2, zast 1, zldA 0, zget 12 16 2, zldA 0, zget 12 19 0, zcI (0), zast 0, zldA 0, zdup, zget 12 19 0, zcI (1), zbI 0, zput 12 19 0, zldA 0, zget 12 19 0, zcI (1), zbI 1, zret 1]
def zt188 (b : Nat) : List zO := match b with
  | 0 => zo188_0
  | _ => []
def zo189_0 : List zO := [zldA 0, zcI (2), zldI 1, zif 0 1, zcL (1), zgo 2]
def zo189_1 : List zO := [zcL (0), zfal 2]
def zo189_2 : List zO := [zcal 188 3 1 12, zret 1]
def zt189 (b : Nat) : List zO := match b with
  | 0 => zo189_0
  | 1 => zo189_1
  | 2 => zo189_2
  | _ => []
def zo190_0 : List zO := [zldA 0, zcI (1), zldI 1, zun 1, zcal 188 3 1 12, zstI 2, zldA 0, zget 12 12 2, zldI 2, zldA 0, zget 12 21 0, zast 0, zldA 0, zget 12 13 2, zldI 2, zldI 1, zast 0, zldA 0, zdup, zget 12 21 0, zldI 1, zbI 0, zput 12 21 0, zldI 2, zret 1]
def zt190 (b : Nat) : List zO := match b with
  | 0 => zo190_0
  | _ => []
def zo191_0 : List zO := [zldA 0, zget 12 20 2, zldA 0, zget 12 21 0, zldA 0, zget 12 56 0, zbI 0, zldI 1, zun 3, zast 3, zldA 0, zdup, zget 12 56 0, zcI (1), zbI 0, zput 12 56 0, zret 0]
def zt191 (b : Nat) : List zO := match b with
  | 0 => zo191_0
  | _ => []
def zo192_0 : List zO := [zldA 0, zget 12 20 2, zldA 0, zget 12 12 2, zldI 1, zald 0, zldI 2, zbI 0, zald 3, zcI (255), zbI 3, zret 1]
def zt192 (b : Nat) : List zO := match b with
  | 0 => zo192_0
  | _ => []
def zo193_0 : List zO := [zldA 0, zget 12 22 2, zldA 0, zget 12 26 0, zldI 1, zast 0, zldA 0, zget 12 23 2, zldA 0, zget 12 26 0, zldL 2, zast 1, zldA 0, zget 12 24 2, zldA 0, zget 12 26 0, zldI 4, zast 0, zldA 0, zget 12 25 2, zldA 0, zget 12 26 0, zldI 5, zast 0, zldA 0, zdup, zget 12 26 0, zcI (1), zbI 0, zput 12 26 0, zret 0]
def zt193 (b : Nat) : List zO := match b with
  | 0 => zo193_0
  | _ => []
def zo194_0 : List zO := [zldA 0, zcI (4), zcL (0), zcal 188 3 1 12, zstI 2, zldA 0, zget 12 12 2, zldI 2, zldI 1, zast 0, zldA 0, zget 12 13 2, zldI 2, zldA 0, zget 12 26 0, zldI 1, zbI 1, zast 0, zldI 2, zret 1]
def zt194 (b : Nat) : List zO := match b with
  | 0 => zo194_0
  | _ => []
def zo195_0 : List zO := [zcI (0), zstI 3, zfal 1]
def zo195_1 : List zO := [zldI 3, zldI 2, zic 3 2, zldA 0, zldA 0, zget 12 22 2, zldI 1, zldI 3, zbI 0, zald 0, zldA 0, zget 12 23 2, zldI 1, zldI 3, zbI 0, zald 1, zldA 0, zget 12 24 2, zldI 1, zldI 3, zbI 0, zald 0, zldA 0, zget 12 25 2, zldI 1, zldI 3, zbI 0, zald 0, zcal 193 5 1 12, zinc 3 (1), zgo 1]
def zo195_2 : List zO := [zret 0]
def zt195 (b : Nat) : List zO := match b with
  | 0 => zo195_0
  | 1 => zo195_1
  | 2 => zo195_2
  | _ => []
def zo196_0 : List zO := [zldA 0, zget 12 22 2, zldI 1, zald 0, zcI (1), zic 1 1, zcI (2), zldA 0, zget 12 24 2, zldI 1, zald 0, zbI 2, zgo 4]
def zo196_1 : List zO := [zldA 0, zget 12 22 2, zldI 1, zald 0, zif 0 2, zldA 0, zget 12 22 2, zldI 1, zald 0, zcI (2), zic 1 3, zfal 2]
def zo196_2 : List zO := [zldA 0, zget 12 24 2, zldI 1, zald 0, zgo 4]
def zo196_3 : List zO := [zcI (0), zfal 4]
def zo196_4 : List zO := [zret 1]
def zt196 (b : Nat) : List zO := match b with
  | 0 => zo196_0
  | 1 => zo196_1
  | 2 => zo196_2
  | 3 => zo196_3
  | 4 => zo196_4
  | _ => []
def zo197_0 : List zO := [zcI (0), zstI 2, zcI (1), zstI 3, zfal 1]
def zo197_1 : List zO := [zldI 3, zif 5 2, zldI 3, zldA 0, zldI 1, zldI 2, zbI 0, zcal 196 2 1 12, zcI (1), zbI 1, zbI 0, zstI 3, zinc 2 (1), zgo 1]
def zo197_2 : List zO := [zldI 2, zret 1]
def zt197 (b : Nat) : List zO := match b with
  | 0 => zo197_0
  | 1 => zo197_1
  | 2 => zo197_2
  | _ => []
def zo198_0 : List zO := [zcI (0), zstI 3, zcI (0), zstI 4, zcI (0), zstI 5, zfal 1]
def zo198_1 : List zO := [zldI 5, zldI 2, zic 3 6, zfal 2]
def zo198_2 : List zO := [zldI 3, zif 5 3, zldA 0, zget 12 57 2, zldI 3, zald 0, zif 1 3, zinc 3 (-1), zgo 2]
def zo198_3 : List zO := [zldA 0, zget 12 57 2, zldI 3, zdup2, zald 0, zcI (1), zbI 1, zast 0, zinc 3 (1), zldA 0, zget 12 57 2, zldI 3, zldA 0, zldI 1, zldI 5, zbI 0, zcal 196 2 1 12, zast 0, zldI 3, zldI 4, zic 5 4, zldI 3, zgo 5]
def zo198_4 : List zO := [zldI 4, zfal 5]
def zo198_5 : List zO := [zstI 4, zinc 5 (1), zgo 1]
def zo198_6 : List zO := [zldI 4, zret 1]
def zt198 (b : Nat) : List zO := match b with
  | 0 => zo198_0
  | 1 => zo198_1
  | 2 => zo198_2
  | 3 => zo198_3
  | 4 => zo198_4
  | 5 => zo198_5
  | 6 => zo198_6
  | _ => []
def zo199_0 : List zO := [zcI (0), zstI 3, zcI (0), zstI 4, zfal 1]
def zo199_1 : List zO := [zldI 4, zldI 2, zic 3 4, zldI 3, zldA 0, zget 12 22 2, zldI 1, zldI 4, zbI 0, zald 0, zcI (4), zic 1 2, zldA 0, zget 12 24 2, zldI 1, zldI 4, zbI 0, zald 0, zgo 3]
def zo199_2 : List zO := [zcI (0), zfal 3]
def zo199_3 : List zO := [zbI 0, zstI 3, zinc 4 (1), zgo 1]
def zo199_4 : List zO := [zldI 3, zret 1]
def zt199 (b : Nat) : List zO := match b with
  | 0 => zo199_0
  | 1 => zo199_1
  | 2 => zo199_2
  | 3 => zo199_3
  | 4 => zo199_4
  | _ => []
def zo200_0 : List zO := [zldA 0, zget 12 10 2, zldI 1, zald 0, zcI (1), zic 1 1, zcI (1), zldA 0, zget 12 13 2, zldI 1, zald 0, zcI (8), zbI 7, zbI 0, zgo 3]
def zo200_1 : List zO := [zldA 0, zget 12 10 2, zldI 1, zald 0, zcI (4), zic 1 2, zldA 0, zget 12 13 2, zldI 1, zald 0, zldA 0, zldA 0, zget 12 12 2, zldI 1, zald 0, zldA 0, zget 12 13 2, zldI 1, zald 0, zcal 199 3 1 12, zcI (8), zbI 7, zbI 0, zgo 3]
def zo200_2 : List zO := [zcI (1), zfal 3]
def zo200_3 : List zO := [zret 1]
def zt200 (b : Nat) : List zO := match b with
  | 0 => zo200_0
  | 1 => zo200_1
  | 2 => zo200_2
  | 3 => zo200_3
  | _ => []
def zo201_0 : List zO := [zldI 0, zcI (13), zic 0 1, zldI 0, zcI (16), zic 1 2, zfal 1]
def zo201_1 : List zO := [zcI (3), zret 1]
def zo201_2 : List zO := [zldI 0, zcI (11), zic 2 3, zldI 0, zcI (12), zic 0 3, zldI 0, zcI (14), zic 0 3, zldI 0, zcI (15), zic 0 3, zldI 0, zcI (17), zic 0 3, zldI 0, zcI (21), zic 0 3, zldI 0, zcI (28), zic 1 4, zfal 3]
def zo201_3 : List zO := [zcI (2), zgo 5]
def zo201_4 : List zO := [zcI (1), zfal 5]
def zo201_5 : List zO := [zret 1]
def zt201 (b : Nat) : List zO := match b with
  | 0 => zo201_0
  | 1 => zo201_1
  | 2 => zo201_2
  | 3 => zo201_3
  | 4 => zo201_4
  | 5 => zo201_5
  | _ => []
def zo202_0 : List zO := [zldA 0, zldA 0, zget 12 49 0, zif 1 1, zldI 1, zgo 2]
def zo202_1 : List zO := [zldA 0, zget 12 49 0, zfal 2]
def zo202_2 : List zO := [zput 12 49 0, zcI (0), zret 1]
def zt202 (b : Nat) : List zO := match b with
  | 0 => zo202_0
  | 1 => zo202_1
  | 2 => zo202_2
  | _ => []
def zo203_0 : List zO := [zldA 0, zget 12 10 2, zldA 0, zget 12 54 2, zldI 1, zald 0, zald 0, zldI 2, zic 1 1, zcI (1), zgo 2]
def zo203_1 : List zO := [zcI (0), zfal 2]
def zo203_2 : List zO := [zret 2]
def zt203 (b : Nat) : List zO := match b with
  | 0 => zo203_0
  | 1 => zo203_1
  | 2 => zo203_2
  | _ => []
def zo204_0 : List zO := [zldA 0, zldI 1, zcI (4), zcal 203 3 1 12, zif 0 1, zldA 0, zget 12 22 2, zldA 0, zget 12 12 2, zldA 0, zget 12 54 2, zldI 1, zald 0, zald 0, zald 0, zldI 2, zic 1 1, zcI (1), zgo 2]
def zo204_1 : List zO := [zcI (0), zfal 2]
def zo204_2 : List zO := [zret 2]
def zt204 (b : Nat) : List zO := match b with
  | 0 => zo204_0
  | 1 => zo204_1
  | 2 => zo204_2
  | _ => []
def zo205_0 : List zO := [zldI 1, zcI (10), zic 3 3, zldA 0, zcI (0), zcI (0), zcal 203 3 1 12, zif 0 1, zldA 0, zcI (1), zcI (0), zcal 203 3 1 12, zif 0 1, zcI (1), zgo 2]
def zo205_1 : List zO := [zcI (0), zfal 2]
def zo205_2 : List zO := [zret 2]
def zo205_3 : List zO := [zldI 1, zcI (10), zic 0 4, zldI 1, zcI (14), zic 0 4, zldI 1, zcI (15), zic 1 7, zfal 4]
def zo205_4 : List zO := [zldA 0, zcI (0), zcI (1), zcal 203 3 1 12, zif 0 5, zldA 0, zcI (1), zcI (1), zcal 203 3 1 12, zif 0 5, zcI (1), zgo 6]
def zo205_5 : List zO := [zcI (0), zfal 6]
def zo205_6 : List zO := [zret 2]
def zo205_7 : List zO := [zldI 1, ztsw 31 (11) [8, 9, 12, 31, 31, 15, 16, 19, 20, 20, 21, 24, 8, 25, 26, 31, 31, 27, 31, 31, 30]]
def zo205_8 : List zO := [zldA 0, zcI (0), zcI (1), zcal 203 3 1 12, zret 2]
def zo205_9 : List zO := [zldA 0, zcI (0), zcI (1), zcal 203 3 1 12, zif 0 10, zldA 0, zcI (1), zcI (0), zcal 203 3 1 12, zif 0 10, zcI (1), zgo 11]
def zo205_10 : List zO := [zcI (0), zfal 11]
def zo205_11 : List zO := [zret 2]
def zo205_12 : List zO := [zldA 0, zcI (0), zcI (0), zcal 203 3 1 12, zif 0 13, zldA 0, zcI (1), zcI (0), zcal 203 3 1 12, zif 0 13, zldA 0, zcI (2), zcI (1), zcal 203 3 1 12, zif 0 13, zcI (1), zgo 14]
def zo205_13 : List zO := [zcI (0), zfal 14]
def zo205_14 : List zO := [zret 2]
def zo205_15 : List zO := [zldA 0, zcI (0), zcI (2), zcal 203 3 1 12, zret 2]
def zo205_16 : List zO := [zldA 0, zcI (0), zcI (4), zcal 203 3 1 12, zif 0 17, zldA 0, zcI (1), zcI (4), zcal 203 3 1 12, zif 0 17, zcI (1), zgo 18]
def zo205_17 : List zO := [zcI (0), zfal 18]
def zo205_18 : List zO := [zret 2]
def zo205_19 : List zO := [zldA 0, zcI (0), zcI (4), zcal 203 3 1 12, zret 2]
def zo205_20 : List zO := [zldA 0, zcI (0), zcI (0), zcal 204 3 1 12, zret 2]
def zo205_21 : List zO := [zldA 0, zcI (0), zcI (0), zcal 203 3 1 12, zif 0 22, zldA 0, zcI (1), zcI (2), zcal 204 3 1 12, zif 0 22, zcI (1), zgo 23]
def zo205_22 : List zO := [zcI (0), zfal 23]
def zo205_23 : List zO := [zret 2]
def zo205_24 : List zO := [zldA 0, zcI (0), zcI (0), zcal 203 3 1 12, zret 2]
def zo205_25 : List zO := [zldA 0, zcI (0), zcI (3), zcal 204 3 1 12, zret 2]
def zo205_26 : List zO := [zldA 0, zcI (0), zcI (4), zcal 204 3 1 12, zret 2]
def zo205_27 : List zO := [zldA 0, zcI (0), zcI (4), zcal 203 3 1 12, zif 0 28, zldA 0, zcI (1), zcI (2), zcal 204 3 1 12, zif 0 28, zcI (1), zgo 29]
def zo205_28 : List zO := [zcI (0), zfal 29]
def zo205_29 : List zO := [zret 2]
def zo205_30 : List zO := [zldA 0, zcI (0), zcI (1), zcal 204 3 1 12, zret 2]
def zo205_31 : List zO := [zldA 0, zcI (0), zcI (2), zcal 204 3 1 12, zret 2]
def zt205 (b : Nat) : List zO := match b with
  | 0 => zo205_0
  | 1 => zo205_1
  | 2 => zo205_2
  | 3 => zo205_3
  | 4 => zo205_4
  | 5 => zo205_5
  | 6 => zo205_6
  | 7 => zo205_7
  | 8 => zo205_8
  | 9 => zo205_9
  | 10 => zo205_10
  | 11 => zo205_11
  | 12 => zo205_12
  | 13 => zo205_13
  | 14 => zo205_14
  | 15 => zo205_15
  | 16 => zo205_16
  | 17 => zo205_17
  | 18 => zo205_18
  | 19 => zo205_19
  | 20 => zo205_20
  | 21 => zo205_21
  | 22 => zo205_22
  | 23 => zo205_23
  | 24 => zo205_24
  | 25 => zo205_25
  | 26 => zo205_26
  | 27 => zo205_27
  | 28 => zo205_28
  | 29 => zo205_29
  | 30 => zo205_30
  | 31 => zo205_31
  | _ => []
def zo206_0 : List zO := [zldL 0, zcL (0), zcmp, zif 0 1, zldL 2, zcL (0), zcmp, zif 1 2, zfal 1]
def zo206_1 : List zO := [zcI (1), zret 2]
def zo206_2 : List zO := [zldL 0, zldL 2, zbL 2, zstL 4, zldL 0, zcL (-1), zcmp, zif 1 3, zldL 2, zcL (-9223372036854775808), zcmp, zif 0 5, zfal 3]
def zo206_3 : List zO := [zldL 2, zcL (-1), zcmp, zif 1 4, zldL 0, zcL (-9223372036854775808), zcmp, zif 0 5, zfal 4]
def zo206_4 : List zO := [zldL 4, zldL 2, zbL 6, zldL 0, zcmp, zif 1 5, zcI (1), zgo 6]
def zo206_5 : List zO := [zcI (0), zfal 6]
def zo206_6 : List zO := [zret 2]
def zt206 (b : Nat) : List zO := match b with
  | 0 => zo206_0
  | 1 => zo206_1
  | 2 => zo206_2
  | 3 => zo206_3
  | 4 => zo206_4
  | 5 => zo206_5
  | 6 => zo206_6
  | _ => []
def zo207_0 : List zO := [zldL 4, zcL (-1), zcmp, zif 1 1, zldL 2, zcL (-9223372036854775808), zcmp, zif 1 1, zcI (1), zgo 2]
def zo207_1 : List zO := [zcI (0), zfal 2]
def zo207_2 : List zO := [zstI 6, zldI 1, ztsw 52 (0) [3, 8, 13, 16, 26, 37, 41, 46, 49]]
def zo207_3 : List zO := [zldL 4, zcL (0), zcmp, zif 5 5, zldL 2, zcL (9223372036854775807), zldL 4, zbL 1, zcmp, zif 5 4, zldA 0, zcI (3), zcal 202 2 1 12, zgo 7]
def zo207_4 : List zO := [zldA 0, zcI (0), zldL 2, zldL 4, zbL 0, zcal 188 3 1 12, zgo 7]
def zo207_5 : List zO := [zldL 2, zcL (-9223372036854775808), zldL 4, zbL 1, zcmp, zif 3 6, zldA 0, zcI (3), zcal 202 2 1 12, zgo 7]
def zo207_6 : List zO := [zldA 0, zcI (0), zldL 2, zldL 4, zbL 0, zcal 188 3 1 12, zfal 7]
def zo207_7 : List zO := [zret 1]
def zo207_8 : List zO := [zldL 4, zcL (0), zcmp, zif 3 10, zldL 2, zcL (9223372036854775807), zldL 4, zbL 0, zcmp, zif 5 9, zldA 0, zcI (3), zcal 202 2 1 12, zgo 12]
def zo207_9 : List zO := [zldA 0, zcI (0), zldL 2, zldL 4, zbL 1, zcal 188 3 1 12, zgo 12]
def zo207_10 : List zO := [zldL 2, zcL (-9223372036854775808), zldL 4, zbL 0, zcmp, zif 3 11, zldA 0, zcI (3), zcal 202 2 1 12, zgo 12]
def zo207_11 : List zO := [zldA 0, zcI (0), zldL 2, zldL 4, zbL 1, zcal 188 3 1 12, zfal 12]
def zo207_12 : List zO := [zret 1]
def zo207_13 : List zO := [zldL 2, zldL 4, zcal 206 2 0 12, zif 0 14, zldA 0, zcI (0), zldL 2, zldL 4, zbL 2, zcal 188 3 1 12, zgo 15]
def zo207_14 : List zO := [zldA 0, zcI (3), zcal 202 2 1 12, zfal 15]
def zo207_15 : List zO := [zret 1]
def zo207_16 : List zO := [zldL 4, zcL (0), zcmp, zif 0 17, zldI 6, zif 0 18, zfal 17]
def zo207_17 : List zO := [zldA 0, zcI (3), zcal 202 2 1 12, zgo 25]
def zo207_18 : List zO := [zldA 0, zcI (0), zldL 2, zldL 4, zbL 6, zldL 2, zldL 4, zbL 7, zcL (0), zcmp, zif 0 23, zldL 2, zcL (0), zcmp, zif 3 19, zcI (1), zgo 20]
def zo207_19 : List zO := [zcI (0), zfal 20]
def zo207_20 : List zO := [zldL 4, zcL (0), zcmp, zif 3 21, zcI (1), zgo 22]
def zo207_21 : List zO := [zcI (0), zfal 22]
def zo207_22 : List zO := [zic 0 23, zcL (1), zgo 24]
def zo207_23 : List zO := [zcL (0), zfal 24]
def zo207_24 : List zO := [zbL 1, zcal 188 3 1 12, zfal 25]
def zo207_25 : List zO := [zret 1]
def zo207_26 : List zO := [zldL 4, zcL (0), zcmp, zif 1 27, zldA 0, zcI (3), zcal 202 2 1 12, zgo 36]
def zo207_27 : List zO := [zldA 0, zcI (0), zldI 6, zif 0 28, zcL (0), zgo 35]
def zo207_28 : List zO := [zldL 2, zldL 4, zbL 7, zldL 2, zldL 4, zbL 7, zcL (0), zcmp, zif 0 33, zldL 2, zcL (0), zcmp, zif 3 29, zcI (1), zgo 30]
def zo207_29 : List zO := [zcI (0), zfal 30]
def zo207_30 : List zO := [zldL 4, zcL (0), zcmp, zif 3 31, zcI (1), zgo 32]
def zo207_31 : List zO := [zcI (0), zfal 32]
def zo207_32 : List zO := [zic 0 33, zldL 4, zgo 34]
def zo207_33 : List zO := [zcL (0), zfal 34]
def zo207_34 : List zO := [zbL 0, zfal 35]
def zo207_35 : List zO := [zcal 188 3 1 12, zfal 36]
def zo207_36 : List zO := [zret 1]
def zo207_37 : List zO := [zldL 4, zcL (0), zcmp, zif 0 38, zldI 6, zif 0 39, zfal 38]
def zo207_38 : List zO := [zldA 0, zcI (3), zcal 202 2 1 12, zgo 40]
def zo207_39 : List zO := [zldA 0, zcI (0), zldL 2, zldL 4, zbL 6, zcal 188 3 1 12, zfal 40]
def zo207_40 : List zO := [zret 1]
def zo207_41 : List zO := [zldL 4, zcL (0), zcmp, zif 1 42, zldA 0, zcI (3), zcal 202 2 1 12, zgo 45]
def zo207_42 : List zO := [zldA 0, zcI (0), zldI 6, zif 0 43, zcL (0), zgo 44]
def zo207_43 : List zO := [zldL 2, zldL 4, zbL 7, zfal 44]
def zo207_44 : List zO := [zcal 188 3 1 12, zfal 45]
def zo207_45 : List zO := [zret 1]
def zo207_46 : List zO := [zldA 0, zldL 2, zldL 4, zcmp, zif 1 47, zcI (1), zgo 48]
def zo207_47 : List zO := [zcI (0), zfal 48]
def zo207_48 : List zO := [zcal 189 2 1 12, zret 1]
def zo207_49 : List zO := [zldA 0, zldL 2, zldL 4, zcmp, zif 3 50, zcI (1), zgo 51]
def zo207_50 : List zO := [zcI (0), zfal 51]
def zo207_51 : List zO := [zcal 189 2 1 12, zret 1]
def zo207_52 : List zO := [zldA 0, zldL 2, zldL 4, zcmp, zif 4 53, zcI (1), zgo 54]
def zo207_53 : List zO := [zcI (0), zfal 54]
def zo207_54 : List zO := [zcal 189 2 1 12, zret 1]
def zt207 (b : Nat) : List zO := match b with
  | 0 => zo207_0
  | 1 => zo207_1
  | 2 => zo207_2
  | 3 => zo207_3
  | 4 => zo207_4
  | 5 => zo207_5
  | 6 => zo207_6
  | 7 => zo207_7
  | 8 => zo207_8
  | 9 => zo207_9
  | 10 => zo207_10
  | 11 => zo207_11
  | 12 => zo207_12
  | 13 => zo207_13
  | 14 => zo207_14
  | 15 => zo207_15
  | 16 => zo207_16
  | 17 => zo207_17
  | 18 => zo207_18
  | 19 => zo207_19
  | 20 => zo207_20
  | 21 => zo207_21
  | 22 => zo207_22
  | 23 => zo207_23
  | 24 => zo207_24
  | 25 => zo207_25
  | 26 => zo207_26
  | 27 => zo207_27
  | 28 => zo207_28
  | 29 => zo207_29
  | 30 => zo207_30
  | 31 => zo207_31
  | 32 => zo207_32
  | 33 => zo207_33
  | 34 => zo207_34
  | 35 => zo207_35
  | 36 => zo207_36
  | 37 => zo207_37
  | 38 => zo207_38
  | 39 => zo207_39
  | 40 => zo207_40
  | 41 => zo207_41
  | 42 => zo207_42
  | 43 => zo207_43
  | 44 => zo207_44
  | 45 => zo207_45
  | 46 => zo207_46
  | 47 => zo207_47
  | 48 => zo207_48
  | 49 => zo207_49
  | 50 => zo207_50
  | 51 => zo207_51
  | 52 => zo207_52
  | 53 => zo207_53
  | 54 => zo207_54
  | _ => []
def zo208_0 : List zO := [zcI (0), zstI 3, zfal 1]
def zo208_1 : List zO := [zldI 3, zldA 0, zget 12 13 2, zldI 1, zald 0, zic 3 3, zldI 3, zldA 0, zget 12 13 2, zldI 2, zald 0, zic 3 3, zldA 0, zldI 1, zldI 3, zcal 192 3 1 12, zldA 0, zldI 2, zldI 3, zcal 192 3 1 12, zic 0 2, zldA 0, zldI 1, zldI 3, zcal 192 3 1 12, zldA 0, zldI 2, zldI 3, zcal 192 3 1 12, zbI 1, zret 1]
def zo208_2 : List zO := [zinc 3 (1), zgo 1]
def zo208_3 : List zO := [zldA 0, zget 12 13 2, zldI 1, zald 0, zldA 0, zget 12 13 2, zldI 2, zald 0, zbI 1, zret 1]
def zt208 (b : Nat) : List zO := match b with
  | 0 => zo208_0
  | 1 => zo208_1
  | 2 => zo208_2
  | 3 => zo208_3
  | _ => []
def zo209_0 : List zO := [zldA 0, zcI (0), zput 12 56 0, zldA 0, zget 12 54 2, zcI (0), zald 0, zstI 2, zldI 1, ztsw 21 (10) [1, 7, 8, 12, 18]]
def zo209_1 : List zO := [zldA 0, zget 12 13 2, zldI 2, zald 0, zldA 0, zget 12 13 2, zldA 0, zget 12 54 2, zcI (1), zald 0, zald 0, zbI 0, zcI (64), zic 5 2, zldA 0, zcI (3), zcal 202 2 1 12, zret 1]
def zo209_2 : List zO := [zcI (0), zstI 3, zfal 3]
def zo209_3 : List zO := [zldI 3, zldA 0, zget 12 13 2, zldI 2, zald 0, zldA 0, zget 12 13 2, zldA 0, zget 12 54 2, zcI (1), zald 0, zald 0, zbI 0, zic 3 6, zldA 0, zldI 3, zldA 0, zget 12 13 2, zldI 2, zald 0, zic 3 4, zldA 0, zldI 2, zldI 3, zcal 192 3 1 12, zgo 5]
def zo209_4 : List zO := [zldA 0, zldA 0, zget 12 54 2, zcI (1), zald 0, zldI 3, zldA 0, zget 12 13 2, zldI 2, zald 0, zbI 1, zcal 192 3 1 12, zfal 5]
def zo209_5 : List zO := [zcal 191 2 1 12, zinc 3 (1), zgo 3]
def zo209_6 : List zO := [zldA 0, zldA 0, zget 12 56 0, zcal 190 2 1 12, zret 1]
def zo209_7 : List zO := [zldA 0, zcI (0), zldA 0, zget 12 13 2, zldI 2, zald 0, zun 1, zcal 188 3 1 12, zret 1]
def zo209_8 : List zO := [zldA 0, zget 12 11 2, zldA 0, zget 12 54 2, zcI (1), zald 0, zald 1, zstL 3, zldL 3, zcL (0), zcmp, zif 2 9, zldL 3, zldA 0, zget 12 13 2, zldI 2, zald 0, zun 1, zcmp, zif 2 10, zfal 9]
def zo209_9 : List zO := [zldA 0, zcI (3), zcal 202 2 1 12, zgo 11]
def zo209_10 : List zO := [zldA 0, zcI (0), zldA 0, zldI 2, zldL 3, zun 2, zcal 192 3 1 12, zun 1, zcal 188 3 1 12, zfal 11]
def zo209_11 : List zO := [zret 1]
def zo209_12 : List zO := [zcI (0), zstI 3, zfal 13]
def zo209_13 : List zO := [zldI 3, zldA 0, zget 12 13 2, zldA 0, zget 12 54 2, zcI (2), zald 0, zald 0, zic 3 17, zldA 0, zget 12 11 2, zldI 2, zald 1, zcL (0), zcmp, zif 3 14, zcL (0), zgo 15]
def zo209_14 : List zO := [zldA 0, zget 12 11 2, zldI 2, zald 1, zfal 15]
def zo209_15 : List zO := [zstL 4, zldI 3, zun 1, zldL 4, zcmp, zif 2 16, zldI 3, zun 1, zldL 4, zbL 1, zldA 0, zget 12 11 2, zldA 0, zget 12 54 2, zcI (1), zald 0, zald 1, zcmp, zif 3 16, zldA 0, zldA 0, zldA 0, zget 12 54 2, zcI (2), zald 0, zldI 3, zcal 192 3 1 12, zcal 191 2 1 12, zfal 16]
def zo209_16 : List zO := [zinc 3 (1), zgo 13]
def zo209_17 : List zO := [zldA 0, zldA 0, zget 12 56 0, zcal 190 2 1 12, zret 1]
def zo209_18 : List zO := [zldA 0, zldA 0, zldI 2, zldA 0, zget 12 54 2, zcI (1), zald 0, zcal 208 3 1 12, zif 1 19, zcI (1), zgo 20]
def zo209_19 : List zO := [zcI (0), zfal 20]
def zo209_20 : List zO := [zcal 189 2 1 12, zret 1]
def zo209_21 : List zO := [zldA 0, zldA 0, zldI 2, zldA 0, zget 12 54 2, zcI (1), zald 0, zcal 208 3 1 12, zif 3 22, zcI (1), zgo 23]
def zo209_22 : List zO := [zcI (0), zfal 23]
def zo209_23 : List zO := [zcal 189 2 1 12, zret 1]
def zt209 (b : Nat) : List zO := match b with
  | 0 => zo209_0
  | 1 => zo209_1
  | 2 => zo209_2
  | 3 => zo209_3
  | 4 => zo209_4
  | 5 => zo209_5
  | 6 => zo209_6
  | 7 => zo209_7
  | 8 => zo209_8
  | 9 => zo209_9
  | 10 => zo209_10
  | 11 => zo209_11
  | 12 => zo209_12
  | 13 => zo209_13
  | 14 => zo209_14
  | 15 => zo209_15
  | 16 => zo209_16
  | 17 => zo209_17
  | 18 => zo209_18
  | 19 => zo209_19
  | 20 => zo209_20
  | 21 => zo209_21
  | 22 => zo209_22
  | 23 => zo209_23
  | _ => []
def zo210_0 : List zO := [zldA 0, zget 12 13 2, zldI 1, zald 0, zldA 0, zget 12 13 2, zldI 2, zald 0, zic 1 1, zcI (1), zgo 2]
def zo210_1 : List zO := [zcI (0), zfal 2]
def zo210_2 : List zO := [zstI 3, zcI (0), zstI 4, zfal 3]
def zo210_3 : List zO := [zldI 3, zif 0 10, zldI 4, zldA 0, zget 12 13 2, zldI 1, zald 0, zic 3 10, zldA 0, zget 12 12 2, zldI 1, zald 0, zldI 4, zbI 0, zstI 5, zldA 0, zget 12 12 2, zldI 2, zald 0, zldI 4, zbI 0, zstI 6, zldA 0, zget 12 22 2, zldI 5, zald 0, zldA 0, zget 12 22 2, zldI 6, zald 0, zic 1 4, zldA 0, zget 12 23 2, zldI 5, zald 1, zldA 0, zget 12 23 2, zldI 6, zald 1, zcmp, zif 1 4, zldA 0, zget 12 24 2, zldI 5, zald 0, zldA 0, zget 12 24 2, zldI 6, zald 0, zic 1 4, zcI (1), zgo 5]
def zo210_4 : List zO := [zcI (0), zfal 5]
def zo210_5 : List zO := [zstI 3, zcI (0), zstI 7, zfal 6]
def zo210_6 : List zO := [zldI 3, zif 0 9, zldA 0, zget 12 22 2, zldI 5, zald 0, zcI (4), zic 1 9, zldI 7, zldA 0, zget 12 24 2, zldI 5, zald 0, zic 3 9, zldA 0, zget 12 20 2, zldA 0, zget 12 25 2, zldI 5, zald 0, zldI 7, zbI 0, zald 3, zldA 0, zget 12 20 2, zldA 0, zget 12 25 2, zldI 6, zald 0, zldI 7, zbI 0, zald 3, zic 1 7, zcI (1), zgo 8]
def zo210_7 : List zO := [zcI (0), zfal 8]
def zo210_8 : List zO := [zstI 3, zinc 7 (1), zgo 6]
def zo210_9 : List zO := [zinc 4 (1), zgo 3]
def zo210_10 : List zO := [zldI 3, zret 2]
def zt210 (b : Nat) : List zO := match b with
  | 0 => zo210_0
  | 1 => zo210_1
  | 2 => zo210_2
  | 3 => zo210_3
  | 4 => zo210_4
  | 5 => zo210_5
  | 6 => zo210_6
  | 7 => zo210_7
  | 8 => zo210_8
  | 9 => zo210_9
  | 10 => zo210_10
  | _ => []
def zo211_0 : List zO := [zldA 0, zget 12 26 0, zstI 6, zldA 0, zldI 1, zldL 2, zldI 4, zcI (0), zcal 193 5 1 12, zldA 0, zldA 0, zget 12 12 2, zldI 5, zald 0, zcI (1), zbI 0, zldA 0, zget 12 13 2, zldI 5, zald 0, zcI (1), zbI 1, zcal 195 3 1 12, zldA 0, zldI 6, zcal 194 2 1 12, zret 1]
def zt211 (b : Nat) : List zO := match b with
  | 0 => zo211_0
  | _ => []
def zo212_0 : List zO := [zldA 0, zget 12 54 2, zcI (0), zald 0, zstI 2, zldA 0, zget 12 12 2, zldI 2, zald 0, zstI 3, zldA 0, zget 12 26 0, zstI 4, zldI 1, ztsw 15 (17) [1, 2, 3, 4, 5, 9, 10, 11, 12]]
def zo212_1 : List zO := [zldA 0, zldA 0, zldI 2, zldA 0, zget 12 54 2, zcI (1), zald 0, zcal 210 3 1 12, zcal 189 2 1 12, zret 1]
def zo212_2 : List zO := [zldA 0, zcI (0), zldA 0, zget 12 22 2, zldI 3, zald 0, zun 1, zcal 188 3 1 12, zret 1]
def zo212_3 : List zO := [zldA 0, zcI (0), zldA 0, zget 12 23 2, zldI 3, zald 1, zcal 188 3 1 12, zret 1]
def zo212_4 : List zO := [zldA 0, zcI (2), zcL (0), zldA 0, zget 12 24 2, zldI 3, zald 0, zldI 2, zcal 211 5 1 12, zret 1]
def zo212_5 : List zO := [zldA 0, zget 12 11 2, zldI 2, zald 1, zcL (0), zcmp, zif 2 6, zldA 0, zget 12 11 2, zldI 2, zald 1, zcL (127), zcmp, zif 5 7, zfal 6]
def zo212_6 : List zO := [zldA 0, zcI (3), zcal 202 2 1 12, zgo 8]
def zo212_7 : List zO := [zldA 0, zcI (0), zldA 0, zget 12 11 2, zldI 2, zald 1, zldA 0, zget 12 24 2, zldA 0, zget 12 12 2, zldA 0, zget 12 54 2, zcI (1), zald 0, zald 0, zald 0, zldA 0, zget 12 54 2, zcI (1), zald 0, zcal 211 5 1 12, zfal 8]
def zo212_8 : List zO := [zret 1]
def zo212_9 : List zO := [zldA 0, zcI (3), zldA 0, zget 12 11 2, zldI 2, zald 1, zcI (0), zcI (0), zcal 193 5 1 12, zldA 0, zldI 4, zcal 194 2 1 12, zret 1]
def zo212_10 : List zO := [zldA 0, zcI (4), zcL (0), zldA 0, zget 12 13 2, zldI 2, zald 0, zldI 3, zcal 193 5 1 12, zldA 0, zldI 4, zcal 194 2 1 12, zret 1]
def zo212_11 : List zO := [zldA 0, zcI (0), zldA 0, zget 12 23 2, zldI 3, zald 1, zcal 188 3 1 12, zret 1]
def zo212_12 : List zO := [zldA 0, zcI (0), zput 12 56 0, zcI (0), zstI 5, zfal 13]
def zo212_13 : List zO := [zldI 5, zldA 0, zget 12 24 2, zldI 3, zald 0, zic 3 14, zldA 0, zldA 0, zget 12 20 2, zldA 0, zget 12 25 2, zldI 3, zald 0, zldI 5, zbI 0, zald 3, zcal 191 2 1 12, zinc 5 (1), zgo 13]
def zo212_14 : List zO := [zldA 0, zldA 0, zget 12 56 0, zcal 190 2 1 12, zret 1]
def zo212_15 : List zO := [zldA 0, zldI 1, zldI 2, zldI 3, zldI 4, zcal 213 5 1 12, zret 1]
def zt212 (b : Nat) : List zO := match b with
  | 0 => zo212_0
  | 1 => zo212_1
  | 2 => zo212_2
  | 3 => zo212_3
  | 4 => zo212_4
  | 5 => zo212_5
  | 6 => zo212_6
  | 7 => zo212_7
  | 8 => zo212_8
  | 9 => zo212_9
  | 10 => zo212_10
  | 11 => zo212_11
  | 12 => zo212_12
  | 13 => zo212_13
  | 14 => zo212_14
  | 15 => zo212_15
  | _ => []
def zo213_0 : List zO := [zldI 1, zcI (28), zic 1 1, zcI (0), zgo 2]
def zo213_1 : List zO := [zldA 0, zget 12 24 2, zldI 3, zald 0, zfal 2]
def zo213_2 : List zO := [zstI 5, zldI 5, zif 0 3, zldI 1, zcI (28), zic 1 4, zfal 3]
def zo213_3 : List zO := [zcI (0), zgo 5]
def zo213_4 : List zO := [zldA 0, zldI 3, zcI (1), zbI 0, zcal 197 2 1 12, zfal 5]
def zo213_5 : List zO := [zstI 6, zldI 1, ztsw 20 (26) [6, 8, 10, 14, 17]]
def zo213_6 : List zO := [zldI 5, zif 1 7, zldA 0, zcI (3), zcal 202 2 1 12, zret 1]
def zo213_7 : List zO := [zldA 0, zldI 3, zcI (1), zbI 0, zldI 6, zcal 195 3 1 12, zldA 0, zldI 4, zcal 194 2 1 12, zret 1]
def zo213_8 : List zO := [zldI 5, zif 1 9, zldA 0, zcI (3), zcal 202 2 1 12, zret 1]
def zo213_9 : List zO := [zldA 0, zcI (2), zcL (0), zldI 5, zcI (1), zbI 1, zcI (0), zcal 193 5 1 12, zldA 0, zldI 3, zcI (1), zbI 0, zldI 6, zbI 0, zldA 0, zget 12 13 2, zldI 2, zald 0, zcI (1), zbI 1, zldI 6, zbI 1, zcal 195 3 1 12, zldA 0, zldI 4, zcal 194 2 1 12, zret 1]
def zo213_10 : List zO := [zldA 0, zget 12 54 2, zcI (1), zald 0, zstI 7, zldA 0, zget 12 13 2, zldI 2, zald 0, zldA 0, zget 12 13 2, zldI 7, zald 0, zbI 0, zcI (200), zic 5 11, zldA 0, zcI (3), zcal 202 2 1 12, zret 1]
def zo213_11 : List zO := [zldA 0, zcI (2), zcL (0), zldA 0, zget 12 24 2, zldA 0, zget 12 12 2, zldI 7, zald 0, zald 0, zcI (1), zbI 0, zcI (0), zcal 193 5 1 12, zldA 0, zldI 3, zldA 0, zget 12 13 2, zldI 2, zald 0, zcal 195 3 1 12, zldA 0, zldA 0, zget 12 12 2, zldI 7, zald 0, zcI (1), zbI 0, zldA 0, zget 12 13 2, zldI 7, zald 0, zcI (1), zbI 1, zcal 195 3 1 12, zldA 0, zldI 4, zldA 0, zget 12 26 0, zldI 4, zbI 1, zcal 198 3 1 12, zcI (12), zic 5 12, zldA 0, zcI (3), zcal 202 2 1 12, zgo 13]
def zo213_12 : List zO := [zldA 0, zldI 4, zcal 194 2 1 12, zfal 13]
def zo213_13 : List zO := [zret 1]
def zo213_14 : List zO := [zldA 0, zldI 5, zif 1 15, zcI (1), zgo 16]
def zo213_15 : List zO := [zcI (0), zfal 16]
def zo213_16 : List zO := [zcal 189 2 1 12, zret 1]
def zo213_17 : List zO := [zldI 5, zcI (2), zbI 8, zcI (1), zic 1 18, zldA 0, zcI (3), zcal 202 2 1 12, zgo 19]
def zo213_18 : List zO := [zldA 0, zcI (1), zcL (0), zldI 5, zcI (2), zbI 7, zldI 2, zcal 211 5 1 12, zfal 19]
def zo213_19 : List zO := [zret 1]
def zo213_20 : List zO := [zldA 0, zcI (2), zcL (0), zcI (2), zldI 5, zbI 2, zldI 2, zcal 211 5 1 12, zret 1]
def zt213 (b : Nat) : List zO := match b with
  | 0 => zo213_0
  | 1 => zo213_1
  | 2 => zo213_2
  | 3 => zo213_3
  | 4 => zo213_4
  | 5 => zo213_5
  | 6 => zo213_6
  | 7 => zo213_7
  | 8 => zo213_8
  | 9 => zo213_9
  | 10 => zo213_10
  | 11 => zo213_11
  | 12 => zo213_12
  | 13 => zo213_13
  | 14 => zo213_14
  | 15 => zo213_15
  | 16 => zo213_16
  | 17 => zo213_17
  | 18 => zo213_18
  | 19 => zo213_19
  | 20 => zo213_20
  | _ => []
def zo214_0 : List zO := [zldA 0, zldI 1, zcal 205 2 1 12, zif 1 1, zldA 0, zcI (2), zcal 202 2 1 12, zret 1]
def zo214_1 : List zO := [zldI 1, zcI (10), zic 3 2, zldA 0, zldI 1, zldA 0, zget 12 11 2, zldA 0, zget 12 54 2, zcI (0), zald 0, zald 1, zldA 0, zget 12 11 2, zldA 0, zget 12 54 2, zcI (1), zald 0, zald 1, zcal 207 4 1 12, zret 1]
def zo214_2 : List zO := [zldI 1, zcI (16), zic 3 3, zldA 0, zldI 1, zcal 209 2 1 12, zret 1]
def zo214_3 : List zO := [zldI 1, zcI (16), zic 1 6, zldA 0, zget 12 54 2, zldA 0, zget 12 11 2, zldA 0, zget 12 54 2, zcI (0), zald 0, zald 1, zcL (1), zcmp, zif 1 4, zcI (1), zgo 5]
def zo214_4 : List zO := [zcI (2), zfal 5]
def zo214_5 : List zO := [zald 0, zgo 7]
def zo214_6 : List zO := [zldA 0, zldI 1, zcal 212 2 1 12, zfal 7]
def zo214_7 : List zO := [zret 1]
def zt214 (b : Nat) : List zO := match b with
  | 0 => zo214_0
  | 1 => zo214_1
  | 2 => zo214_2
  | 3 => zo214_3
  | 4 => zo214_4
  | 5 => zo214_5
  | 6 => zo214_6
  | 7 => zo214_7
  | _ => []
def zo215_0 : List zO := [zldA 0, zget 12 45 0, zldI 1, zbI 0, zldA 0, zget 12 47 0, zic 5 1, zldA 0, zcI (4), zcal 202 2 1 12, zstI 2, zcI (0), zret 2]
def zo215_1 : List zO := [zldA 0, zdup, zget 12 45 0, zldI 1, zbI 0, zput 12 45 0, zcI (1), zret 2]
def zt215 (b : Nat) : List zO := match b with
  | 0 => zo215_0
  | 1 => zo215_1
  | _ => []
def zo216_0 : List zO := [zldA 0, zget 12 46 0, zldI 1, zbI 0, zldA 0, zget 12 48 0, zic 5 1, zldA 0, zcI (5), zcal 202 2 1 12, zstI 2, zcI (0), zret 2]
def zo216_1 : List zO := [zldA 0, zdup, zget 12 46 0, zldI 1, zbI 0, zput 12 46 0, zcI (1), zret 2]
def zt216 (b : Nat) : List zO := match b with
  | 0 => zo216_0
  | 1 => zo216_1
  | _ => []
def zo217_0 : List zO := [zldA 0, zcI (-1), zput 12 51 0, zldA 0, zldI 1, zput 12 53 0, zret 0]
def zt217 (b : Nat) : List zO := match b with
  | 0 => zo217_0
  | _ => []
def zo218_0 : List zO := [zldA 0, zget 12 33 2, zldA 0, zget 12 36 0, zldI 1, zast 0, zldA 0, zget 12 34 2, zldA 0, zget 12 36 0, zldI 2, zast 0, zldA 0, zget 12 35 2, zldA 0, zget 12 36 0, zldI 3, zast 0, zldA 0, zdup, zget 12 36 0, zcI (1), zbI 0, zput 12 36 0, zldA 0, zldA 0, zget 12 36 0, zldA 0, zget 12 37 0, zic 5 1, zldA 0, zget 12 36 0, zgo 2]
def zo218_1 : List zO := [zldA 0, zget 12 37 0, zfal 2]
def zo218_2 : List zO := [zput 12 37 0, zret 0]
def zt218 (b : Nat) : List zO := match b with
  | 0 => zo218_0
  | 1 => zo218_1
  | 2 => zo218_2
  | _ => []
def zo219_0 : List zO := [zcI (-1), zstI 2, zldA 0, zget 12 1 2, zldI 1, zald 0, ztsw 9 (7) [1, 2, 5, 6, 7, 8]]
def zo219_1 : List zO := [zldA 0, zcI (0), zldA 0, zget 12 2 2, zldI 1, zald 1, zcal 188 3 1 12, zstI 2, zgo 9]
def zo219_2 : List zO := [zldA 0, zcI (0), zput 12 56 0, zcI (0), zstI 3, zfal 3]
def zo219_3 : List zO := [zldI 3, zun 1, zldA 0, zget 12 2 2, zldI 1, zald 1, zcmp, zif 3 4, zldA 0, zldA 0, zget 12 6 2, zcI (64), zldI 1, zbI 2, zldI 3, zbI 0, zald 3, zcal 191 2 1 12, zinc 3 (1), zgo 3]
def zo219_4 : List zO := [zldA 0, zldA 0, zget 12 56 0, zcal 190 2 1 12, zstI 2, zgo 9]
def zo219_5 : List zO := [zldA 0, zcI (2), zldA 0, zget 12 2 2, zldI 1, zald 1, zcal 188 3 1 12, zstI 2, zgo 9]
def zo219_6 : List zO := [zldA 0, zcI (3), zcL (0), zcal 188 3 1 12, zstI 2, zgo 9]
def zo219_7 : List zO := [zldA 0, zcI (2), zcL (0), zcI (0), zcI (0), zcal 193 5 1 12, zldA 0, zldA 0, zget 12 26 0, zcI (1), zbI 1, zcal 194 2 1 12, zstI 2, zgo 9]
def zo219_8 : List zO := [zldA 0, zldA 0, zget 12 2 2, zldI 1, zald 1, zun 2, zcal 220 2 1 12, zstI 2, zgo 9]
def zo219_9 : List zO := [zldA 0, zget 12 32 2, zldI 1, zldI 2, zast 0, zret 0]
def zt219 (b : Nat) : List zO := match b with
  | 0 => zo219_0
  | 1 => zo219_1
  | 2 => zo219_2
  | 3 => zo219_3
  | 4 => zo219_4
  | 5 => zo219_5
  | 6 => zo219_6
  | 7 => zo219_7
  | 8 => zo219_8
  | 9 => zo219_9
  | _ => []
def zo220_0 : List zO := [zldA 0, zget 12 26 0, zstI 2, zcI (0), zstI 3, zfal 1]
def zo220_1 : List zO := [zldI 3, zldA 0, zget 12 38 2, zldI 1, zald 0, zic 3 4, zcI (200), zldI 1, zbI 2, zldI 3, zbI 0, zstI 4, zldA 0, zldA 0, zget 12 39 2, zldI 4, zald 0, zldA 0, zget 12 40 2, zldI 4, zald 1, zldA 0, zget 12 41 2, zldI 4, zald 0, zldA 0, zget 12 21 0, zcal 193 5 1 12, zcI (0), zstI 5, zfal 2]
def zo220_2 : List zO := [zldI 5, zldA 0, zget 12 41 2, zldI 4, zald 0, zic 3 3, zldA 0, zget 12 39 2, zldI 4, zald 0, zcI (4), zic 1 3, zldA 0, zget 12 20 2, zldA 0, zget 12 21 0, zldA 0, zget 12 43 2, zcI (4096), zldI 1, zbI 2, zldA 0, zget 12 42 2, zldI 4, zald 0, zbI 0, zldI 5, zbI 0, zald 3, zast 3, zldA 0, zdup, zget 12 21 0, zcI (1), zbI 0, zput 12 21 0, zinc 5 (1), zgo 2]
def zo220_3 : List zO := [zinc 3 (1), zgo 1]
def zo220_4 : List zO := [zldA 0, zldI 2, zcal 194 2 1 12, zret 1]
def zt220 (b : Nat) : List zO := match b with
  | 0 => zo220_0
  | 1 => zo220_1
  | 2 => zo220_2
  | 3 => zo220_3
  | 4 => zo220_4
  | _ => []
def zo221_0 : List zO := [zldA 0, zcI (1), zcal 215 2 1 12, zif 1 1, zret 0]
def zo221_1 : List zO := [zldA 0, zget 12 51 0, zstI 1, zldA 0, zget 12 1 2, zldI 1, zald 0, zstI 2, zldI 2, zif 1 2, zldA 0, zldA 0, zget 12 27 2, zldA 0, zget 12 29 2, zldA 0, zget 12 52 0, zald 0, zldA 0, zget 12 30 2, zldA 0, zget 12 52 0, zald 0, zbI 0, zldA 0, zget 12 2 2, zldI 1, zald 1, zun 2, zbI 1, zald 0, zcal 217 2 1 12, zgo 16]
def zo221_2 : List zO := [zldI 2, zcI (1), zic 0 3, zldI 2, zcI (3), zic 0 3, zldI 2, zcI (6), zic 1 9, zfal 3]
def zo221_3 : List zO := [zldA 0, zcI (1), zcal 216 2 1 12, zif 0 16, zldA 0, zldI 2, zcI (1), zic 1 4, zcI (5), zgo 6]
def zo221_4 : List zO := [zldI 2, zcI (3), zic 1 5, zcI (6), zgo 6]
def zo221_5 : List zO := [zcI (7), zfal 6]
def zo221_6 : List zO := [zldI 2, zcI (6), zic 1 7, zldA 0, zget 12 2 2, zldI 1, zald 1, zgo 8]
def zo221_7 : List zO := [zcL (0), zfal 8]
def zo221_8 : List zO := [zcal 188 3 1 12, zstI 3, zldA 0, zget 12 14 2, zldI 3, zldA 0, zget 12 3 2, zldI 1, zald 0, zast 0, zldA 0, zget 12 15 2, zldI 3, zldA 0, zget 12 52 0, zast 0, zldA 0, zldI 3, zcal 217 2 1 12, zgo 16]
def zo221_9 : List zO := [zldI 2, zcI (2), zic 0 10, zldI 2, zcI (4), zic 1 14, zfal 10]
def zo221_10 : List zO := [zldA 0, zget 12 36 0, zcI (400), zic 1 11, zldA 0, zcI (6), zcal 202 2 1 12, zstI 3, zgo 16]
def zo221_11 : List zO := [zldA 0, zldI 2, zcI (2), zic 1 12, zcI (0), zgo 13]
def zo221_12 : List zO := [zcI (2), zfal 13]
def zo221_13 : List zO := [zldA 0, zget 12 4 2, zldI 1, zald 0, zldA 0, zget 12 52 0, zcal 218 4 1 12, zldA 0, zldA 0, zget 12 3 2, zldI 1, zald 0, zput 12 51 0, zgo 16]
def zo221_14 : List zO := [zldI 2, zcI (5), zic 1 15, zldA 0, zcI (1), zcal 202 2 1 12, zstI 3, zgo 16]
def zo221_15 : List zO := [zldA 0, zldA 0, zget 12 32 2, zldI 1, zald 0, zcal 217 2 1 12, zfal 16]
def zo221_16 : List zO := [zret 0]
def zt221 (b : Nat) : List zO := match b with
  | 0 => zo221_0
  | 1 => zo221_1
  | 2 => zo221_2
  | 3 => zo221_3
  | 4 => zo221_4
  | 5 => zo221_5
  | 6 => zo221_6
  | 7 => zo221_7
  | 8 => zo221_8
  | 9 => zo221_9
  | 10 => zo221_10
  | 11 => zo221_11
  | 12 => zo221_12
  | 13 => zo221_13
  | 14 => zo221_14
  | 15 => zo221_15
  | 16 => zo221_16
  | _ => []
def zo222_0 : List zO := [zldA 0, zcI (1), zcal 216 2 1 12, zif 1 1, zret 0]
def zo222_1 : List zO := [zldA 0, zget 12 15 2, zldI 1, zald 0, zstI 3, zldA 0, zget 12 29 2, zldA 0, zget 12 31 0, zldA 0, zget 12 28 0, zast 0, zldA 0, zget 12 30 2, zldA 0, zget 12 31 0, zldA 0, zget 12 30 2, zldI 3, zald 0, zcI (1), zbI 0, zast 0, zcI (0), zstI 4, zfal 2]
def zo222_2 : List zO := [zldI 4, zldA 0, zget 12 30 2, zldI 3, zald 0, zic 3 3, zldA 0, zget 12 27 2, zldA 0, zget 12 28 0, zldI 4, zbI 0, zldA 0, zget 12 27 2, zldA 0, zget 12 29 2, zldI 3, zald 0, zldI 4, zbI 0, zald 0, zast 0, zinc 4 (1), zgo 2]
def zo222_3 : List zO := [zldA 0, zdup, zget 12 28 0, zldA 0, zget 12 30 2, zldI 3, zald 0, zcI (1), zbI 0, zbI 0, zput 12 28 0, zldA 0, zget 12 27 2, zldA 0, zget 12 28 0, zcI (1), zbI 1, zldI 2, zast 0, zldA 0, zldA 0, zget 12 31 0, zput 12 52 0, zldA 0, zdup, zget 12 31 0, zcI (1), zbI 0, zput 12 31 0, zldA 0, zldA 0, zget 12 14 2, zldI 1, zald 0, zput 12 51 0, zret 0]
def zt222 (b : Nat) : List zO := match b with
  | 0 => zo222_0
  | 1 => zo222_1
  | 2 => zo222_2
  | 3 => zo222_3
  | _ => []
def zo223_0 : List zO := [zldA 0, zget 12 11 2, zldI 1, zald 1, zun 2, zstI 3, zldA 0, zget 12 16 2, zldI 1, zald 0, zstI 4, zldI 4, zcI (1), zbI 0, zldI 3, zcal 201 1 0 12, zic 3 4, zldA 0, zcI (1), zcal 216 2 1 12, zif 0 3, zldA 0, zcI (7), zldI 3, zun 1, zcal 188 3 1 12, zstI 5, zldA 0, zget 12 16 2, zldI 5, zldI 4, zcI (1), zbI 0, zast 0, zldA 0, zget 12 17 2, zldI 5, zldI 4, zif 1 1, zldI 2, zgo 2]
def zo223_1 : List zO := [zldA 0, zget 12 17 2, zldI 1, zald 0, zfal 2]
def zo223_2 : List zO := [zast 0, zldA 0, zget 12 18 2, zldI 5, zldI 2, zast 0, zldA 0, zldI 5, zcal 217 2 1 12, zfal 3]
def zo223_3 : List zO := [zret 0]
def zo223_4 : List zO := [zldA 0, zget 12 54 2, zcI (0), zldI 4, zif 1 5, zldI 2, zgo 6]
def zo223_5 : List zO := [zldA 0, zget 12 17 2, zldI 1, zald 0, zfal 6]
def zo223_6 : List zO := [zast 0, zldA 0, zget 12 54 2, zcI (1), zldI 4, zcI (1), zic 1 7, zldI 2, zgo 8]
def zo223_7 : List zO := [zldA 0, zget 12 18 2, zldI 1, zald 0, zfal 8]
def zo223_8 : List zO := [zast 0, zldA 0, zget 12 54 2, zcI (2), zldI 2, zast 0, zcI (1), zstI 5, zcI (0), zstI 6, zfal 9]
def zo223_9 : List zO := [zldI 6, zldI 3, zcal 201 1 0 12, zic 3 10, zldI 5, zldA 0, zldA 0, zget 12 54 2, zldI 6, zald 0, zcal 200 2 1 12, zbI 0, zstI 5, zinc 6 (1), zgo 9]
def zo223_10 : List zO := [zldA 0, zldI 5, zcal 215 2 1 12, zif 0 11, zldA 0, zldI 3, zcal 214 2 1 12, zstI 6, zldA 0, zget 12 49 0, zif 1 11, zldA 0, zldA 0, zldI 6, zcal 200 2 1 12, zcal 216 2 1 12, zif 0 11, zldA 0, zldI 6, zcal 217 2 1 12, zfal 11]
def zo223_11 : List zO := [zret 0]
def zt223 (b : Nat) : List zO := match b with
  | 0 => zo223_0
  | 1 => zo223_1
  | 2 => zo223_2
  | 3 => zo223_3
  | 4 => zo223_4
  | 5 => zo223_5
  | 6 => zo223_6
  | 7 => zo223_7
  | 8 => zo223_8
  | 9 => zo223_9
  | 10 => zo223_10
  | 11 => zo223_11
  | _ => []
def zo224_0 : List zO := [zldA 0, zdup, zget 12 36 0, zcI (1), zbI 1, zput 12 36 0, zldA 0, zget 12 33 2, zldA 0, zget 12 36 0, zald 0, zstI 1, zldI 1, zif 1 1, zldA 0, zldA 0, zget 12 35 2, zldA 0, zget 12 36 0, zald 0, zput 12 52 0, zldA 0, zldA 0, zget 12 34 2, zldA 0, zget 12 36 0, zald 0, zput 12 51 0, zldA 0, zcI (1), zcI (-1), zldA 0, zget 12 53 0, zcal 218 4 1 12, zgo 7]
def zo224_1 : List zO := [zldI 1, zcI (1), zic 1 5, zldA 0, zget 12 35 2, zldA 0, zget 12 36 0, zald 0, zstI 2, zldA 0, zget 12 10 2, zldI 2, zald 0, zcI (5), zic 1 2, zldA 0, zldI 2, zldA 0, zget 12 53 0, zcal 222 3 1 12, zgo 4]
def zo224_2 : List zO := [zldA 0, zget 12 10 2, zldI 2, zald 0, zcI (7), zic 1 3, zldA 0, zldI 2, zldA 0, zget 12 53 0, zcal 223 3 1 12, zgo 4]
def zo224_3 : List zO := [zldA 0, zcI (2), zcal 202 2 1 12, zstI 3, zfal 4]
def zo224_4 : List zO := [zgo 7]
def zo224_5 : List zO := [zldA 0, zget 12 10 2, zldA 0, zget 12 53 0, zald 0, zcI (6), zic 1 6, zldA 0, zldA 0, zget 12 14 2, zldA 0, zget 12 53 0, zald 0, zput 12 51 0, zldA 0, zldA 0, zget 12 15 2, zldA 0, zget 12 53 0, zald 0, zput 12 52 0, zgo 7]
def zo224_6 : List zO := [zldA 0, zcI (2), zcal 202 2 1 12, zstI 2, zfal 7]
def zo224_7 : List zO := [zret 0]
def zt224 (b : Nat) : List zO := match b with
  | 0 => zo224_0
  | 1 => zo224_1
  | 2 => zo224_2
  | 3 => zo224_3
  | 4 => zo224_4
  | 5 => zo224_5
  | 6 => zo224_6
  | 7 => zo224_7
  | _ => []
def zo225_0 : List zO := [zldA 0, zldA 0, zget 12 9 0, zif 1 1, zcI (1), zgo 2]
def zo225_1 : List zO := [zcI (0), zfal 2]
def zo225_2 : List zO := [zput 12 0 0, zldA 0, zget 12 0 0, zif 5 3, zcI (0), zret 1]
def zo225_3 : List zO := [zldA 0, zldA 0, zcal 187 1 1 12, zif 5 4, zcI (1), zgo 7]
def zo225_4 : List zO := [zldI 1, zif 2 5, zldI 1, zcI (20000), zic 4 5, zldI 2, zif 2 5, zldI 2, zcI (3000), zic 5 6, zfal 5]
def zo225_5 : List zO := [zcI (2), zgo 7]
def zo225_6 : List zO := [zcI (0), zfal 7]
def zo225_7 : List zO := [zput 12 0 0, zldA 0, zget 12 0 0, zif 5 8, zcI (0), zret 1]
def zo225_8 : List zO := [zldA 0, zldI 1, zput 12 47 0, zldA 0, zldI 2, zput 12 48 0, zldA 0, zcI (0), zput 12 45 0, zldA 0, zcI (0), zput 12 46 0, zldA 0, zcI (0), zput 12 49 0, zldA 0, zcI (0), zput 12 19 0, zldA 0, zcI (0), zput 12 21 0, zldA 0, zcI (0), zput 12 26 0, zldA 0, zcI (0), zput 12 28 0, zldA 0, zcI (1), zput 12 31 0, zldA 0, zget 12 29 2, zcI (0), zcI (0), zast 0, zldA 0, zget 12 30 2, zcI (0), zcI (0), zast 0, zldA 0, zcI (0), zput 12 36 0, zldA 0, zcI (0), zput 12 37 0, zldA 0, zget 12 8 2, zldA 0, zget 12 9 0, zcI (1), zbI 1, zald 0, zstI 3, zldI 3, zldA 0, zget 12 5 2, zldI 3, zald 0, zbI 1, zcI (1), zbI 0, zstI 4, zfal 9]
def zo225_9 : List zO := [zldI 4, zldI 3, zic 4 10, zldA 0, zldI 4, zcal 219 2 1 12, zinc 4 (1), zgo 9]
def zo225_10 : List zO := [zldA 0, zldI 3, zput 12 51 0, zldA 0, zcI (0), zput 12 52 0, zfal 11]
def zo225_11 : List zO := [zldA 0, zget 12 49 0, zif 1 14, zldA 0, zget 12 51 0, zif 3 12, zldA 0, zget 12 36 0, zif 5 14, zfal 12]
def zo225_12 : List zO := [zldA 0, zget 12 51 0, zif 2 13, zldA 0, zcal 221 1 1 12, zgo 11]
def zo225_13 : List zO := [zldA 0, zcal 224 1 1 12, zgo 11]
def zo225_14 : List zO := [zldA 0, zldA 0, zget 12 49 0, zput 12 44 0, zldA 0, zldA 0, zget 12 53 0, zput 12 50 0, zldA 0, zget 12 44 0, zret 1]
def zt225 (b : Nat) : List zO := match b with
  | 0 => zo225_0
  | 1 => zo225_1
  | 2 => zo225_2
  | 3 => zo225_3
  | 4 => zo225_4
  | 5 => zo225_5
  | 6 => zo225_6
  | 7 => zo225_7
  | 8 => zo225_8
  | 9 => zo225_9
  | 10 => zo225_10
  | 11 => zo225_11
  | 12 => zo225_12
  | 13 => zo225_13
  | 14 => zo225_14
  | _ => []
def zo226_0 : List zO := [zldA 0, zget 12 44 0, zif 1 1, zldA 0, zget 12 10 2, zldA 0, zget 12 50 0, zald 0, zgo 2]
def zo226_1 : List zO := [zcI (-1), zfal 2]
def zo226_2 : List zO := [zret 1]
def zt226 (b : Nat) : List zO := match b with
  | 0 => zo226_0
  | 1 => zo226_1
  | 2 => zo226_2
  | _ => []
def zo227_0 : List zO := [zldA 0, zget 12 44 0, zif 1 1, zldA 0, zget 12 10 2, zldA 0, zget 12 50 0, zald 0, zcI (2), zic 1 1, zldA 0, zget 12 11 2, zldA 0, zget 12 50 0, zald 1, zcL (1), zcmp, zif 1 1, zcI (1), zgo 2]
def zo227_1 : List zO := [zcI (0), zfal 2]
def zo227_2 : List zO := [zret 2]
def zt227 (b : Nat) : List zO := match b with
  | 0 => zo227_0
  | 1 => zo227_1
  | 2 => zo227_2
  | _ => []
def zo228_0 : List zO := [zldA 0, zoini, zldA 0, zcI (200), znewa 18, zput 13 1 2, zldA 0, zcI (200), znewa 16, zput 13 2 2, zldA 0, zcI (200), znewa 17, zput 13 3 2, zldA 0, zcI (200), znewa 16, zput 13 4 2, zldA 0, zcI (200), znewa 16, zput 13 5 2, zldA 0, zcI (12800), znewa 15, zput 13 6 2, zldA 0, zcI (200), znewa 16, zput 13 8 2, zldA 0, zcI (4096), znewa 15, zput 13 10 2, zldA 0, zcI (-1), zput 13 14 0, zldA 0, zcI (200), znewa 16, zput 13 15 2, zldA 0, zcI (200), znewa 16, zput 13 16 2, zldA 0, zcI (200), znewa 16, zput 13 17 2, zldA 0, zcI (400), znewa 16, zput 13 19 2, zldA 0, zcI (400), znewa 16, zput 13 20 2, zldA 0, zcI (400), znewa 16, zput 13 21 2, zldA 0, zcI (200), znewa 16, zput 13 23 2, zldA 0, zcI (200), znewa 16, zput 13 25 2, zldA 0, zcI (200), znewa 16, zput 13 26 2, zldA 0, zcI (200), znewa 16, zput 13 27 2, zret 0]
def zt228 (b : Nat) : List zO := match b with
  | 0 => zo228_0
  | _ => []
def zo229_0 : List zO := [zldI 0, zcI (2), zic 1 1, zcI (2), zgo 4]
def zo229_1 : List zO := [zldI 0, zcI (1), zic 0 2, zldI 0, zcI (3), zic 0 2, zldI 0, zcI (4), zic 1 3, zfal 2]
def zo229_2 : List zO := [zcI (1), zgo 4]
def zo229_3 : List zO := [zcI (0), zfal 4]
def zo229_4 : List zO := [zret 1]
def zt229 (b : Nat) : List zO := match b with
  | 0 => zo229_0
  | 1 => zo229_1
  | 2 => zo229_2
  | 3 => zo229_3
  | 4 => zo229_4
  | _ => []
def zo230_0 : List zO := [zcI (0), zstI 1, zfal 1]
def zo230_1 : List zO := [zldA 0, zget 13 1 2, zldI 1, zald 3, zif 0 2, zinc 1 (1), zgo 1]
def zo230_2 : List zO := [zldI 1, zret 1]
def zt230 (b : Nat) : List zO := match b with
  | 0 => zo230_0
  | 1 => zo230_1
  | 2 => zo230_2
  | _ => []
def zo231_0 : List zO := [zldA 0, zcal 230 1 1 13, zstI 4, zldA 0, zget 13 1 2, zldI 4, zcI (1), zast 3, zldA 0, zdup, zget 13 7 0, zcI (1), zbI 0, zput 13 7 0, zldA 0, zget 13 2 2, zldI 4, zldI 1, zast 0, zldA 0, zget 13 3 2, zldI 4, zldL 2, zast 1, zldA 0, zget 13 4 2, zldI 4, zcI (-1), zast 0, zldA 0, zget 13 5 2, zldI 4, zcI (-1), zast 0, zldI 4, zret 1]
def zt231 (b : Nat) : List zO := match b with
  | 0 => zo231_0
  | _ => []
def zo232_0 : List zO := [zldA 0, zget 13 1 2, zldI 1, zcI (0), zast 3, zldA 0, zdup, zget 13 7 0, zcI (1), zbI 1, zput 13 7 0, zret 0]
def zt232 (b : Nat) : List zO := match b with
  | 0 => zo232_0
  | _ => []
def zo233_0 : List zO := [zldA 0, zcI (0), zput 13 18 0, zcI (1), zstI 2, zldA 0, zget 13 19 2, zcI (0), zldI 1, zast 0, zldA 0, zget 13 20 2, zcI (0), zcI (-1), zast 0, zldA 0, zget 13 21 2, zcI (0), zcI (1), zast 0, zfal 1]
def zo233_1 : List zO := [zldI 2, zif 5 7, zinc 2 (-1), zldA 0, zget 13 19 2, zldI 2, zald 0, zstI 3, zldA 0, zget 13 18 0, zstI 4, zldA 0, zget 13 15 2, zldI 4, zldI 3, zast 0, zldA 0, zget 13 16 2, zldI 4, zldA 0, zget 13 20 2, zldI 2, zald 0, zast 0, zldA 0, zget 13 17 2, zldI 4, zldA 0, zget 13 21 2, zldI 2, zald 0, zast 0, zldA 0, zdup, zget 13 18 0, zcI (1), zbI 0, zput 13 18 0, zldA 0, zget 13 17 2, zldI 4, zald 0, zcI (1), zbI 0, zstI 5, zcI (1), zstI 6, zfal 2]
def zo233_2 : List zO := [zldI 6, zif 2 6, zldI 6, zcI (1), zic 1 3, zldA 0, zget 13 5 2, zldI 3, zald 0, zgo 4]
def zo233_3 : List zO := [zldA 0, zget 13 4 2, zldI 3, zald 0, zfal 4]
def zo233_4 : List zO := [zstI 7, zldI 7, zif 2 5, zldA 0, zget 13 19 2, zldI 2, zldI 7, zast 0, zldA 0, zget 13 20 2, zldI 2, zldI 4, zast 0, zldA 0, zget 13 21 2, zldI 2, zldI 5, zast 0, zinc 2 (1), zfal 5]
def zo233_5 : List zO := [zinc 6 (-1), zgo 2]
def zo233_6 : List zO := [zgo 1]
def zo233_7 : List zO := [zret 0]
def zt233 (b : Nat) : List zO := match b with
  | 0 => zo233_0
  | 1 => zo233_1
  | 2 => zo233_2
  | 3 => zo233_3
  | 4 => zo233_4
  | 5 => zo233_5
  | 6 => zo233_6
  | 7 => zo233_7
  | _ => []
def zo234_0 : List zO := [zldA 0, zldI 1, zcal 233 2 1 13, zcI (0), zstI 2, zcI (0), zstI 3, zfal 1]
def zo234_1 : List zO := [zldI 3, zldA 0, zget 13 18 0, zic 3 4, zldA 0, zget 13 17 2, zldI 3, zald 0, zldI 2, zic 5 2, zldA 0, zget 13 17 2, zldI 3, zald 0, zgo 3]
def zo234_2 : List zO := [zldI 2, zfal 3]
def zo234_3 : List zO := [zstI 2, zinc 3 (1), zgo 1]
def zo234_4 : List zO := [zldI 2, zret 1]
def zt234 (b : Nat) : List zO := match b with
  | 0 => zo234_0
  | 1 => zo234_1
  | 2 => zo234_2
  | 3 => zo234_3
  | 4 => zo234_4
  | _ => []
def zo235_0 : List zO := [zldA 0, zcI (0), zput 13 0 0, zcI (0), zstI 1, zfal 1]
def zo235_1 : List zO := [zldI 1, zcI (200), zic 3 2, zldA 0, zget 13 1 2, zldI 1, zcI (0), zast 3, zinc 1 (1), zgo 1]
def zo235_2 : List zO := [zldA 0, zcI (0), zput 13 7 0, zldA 0, zcI (0), zput 13 9 0, zret 0]
def zt235 (b : Nat) : List zO := match b with
  | 0 => zo235_0
  | 1 => zo235_1
  | 2 => zo235_2
  | _ => []
def zo236_0 : List zO := [zldI 4, zcI (1), zbI 1, zstI 5, zfal 1]
def zo236_1 : List zO := [zldI 5, zif 2 2, zldA 0, zget 13 6 2, zcI (64), zldI 1, zbI 2, zldA 0, zget 13 3 2, zldI 1, zald 1, zun 2, zbI 0, zldL 2, zcI (8), zldI 5, zbI 2, zsL 1, zun 2, zun 3, zast 3, zldA 0, zget 13 3 2, zldI 1, zdup2, zald 1, zcL (1), zbL 0, zast 1, zinc 5 (-1), zgo 1]
def zo236_2 : List zO := [zret 0]
def zt236 (b : Nat) : List zO := match b with
  | 0 => zo236_0
  | 1 => zo236_1
  | 2 => zo236_2
  | _ => []
def zo237_0 : List zO := [zldA 0, zget 13 13 0, zif 1 1, zldA 0, zldI 1, zput 13 13 0, zldA 0, zldI 2, zput 13 14 0, zfal 1]
def zo237_1 : List zO := [zcI (0), zret 1]
def zt237 (b : Nat) : List zO := match b with
  | 0 => zo237_0
  | 1 => zo237_1
  | _ => []
def zo238_0 : List zO := [zldA 0, zget 13 13 0, zif 5 1, zcI (0), zret 1]
def zo238_1 : List zO := [zldA 0, zget 13 22 0, zldA 0, zget 13 11 0, zic 1 2, zldA 0, zcI (1), zldA 0, zget 13 11 0, zcal 237 3 1 13, zret 1]
def zo238_2 : List zO := [zldA 0, zdup, zget 13 22 0, zcI (1), zbI 0, zput 13 22 0, zldA 0, zget 13 10 2, zldA 0, zget 13 22 0, zcI (1), zbI 1, zald 3, zcI (255), zbI 3, zret 1]
def zt238 (b : Nat) : List zO := match b with
  | 0 => zo238_0
  | 1 => zo238_1
  | 2 => zo238_2
  | _ => []
def zo239_0 : List zO := [zcL (0), zstL 1, zcI (0), zstI 3, zcI (128), zstI 4, zfal 1]
def zo239_1 : List zO := [zldI 4, zcI (127), zic 5 2, zldI 3, zcI (5), zic 3 2, zldA 0, zcal 238 1 1 13, zstI 4, zldL 1, zldI 4, zcI (127), zbI 3, zun 1, zcI (7), zldI 3, zbI 2, zsL 0, zbL 0, zstL 1, zinc 3 (1), zgo 1]
def zo239_2 : List zO := [zldA 0, zget 13 13 0, zif 1 4, zldI 4, zcI (127), zic 4 3, zldL 1, zcL (2147483647), zcmp, zif 4 3, zldI 3, zcI (1), zic 5 4, zldI 4, zif 1 4, zfal 3]
def zo239_3 : List zO := [zldA 0, zcI (2), zldA 0, zget 13 22 0, zcI (1), zbI 1, zcal 237 3 1 13, zun 1, zgo 5]
def zo239_4 : List zO := [zldL 1, zfal 5]
def zo239_5 : List zO := [zret 3]
def zt239 (b : Nat) : List zO := match b with
  | 0 => zo239_0
  | 1 => zo239_1
  | 2 => zo239_2
  | 3 => zo239_3
  | 4 => zo239_4
  | 5 => zo239_5
  | _ => []
def zo240_0 : List zO := [zcL (0), zstL 1, zcI (0), zstI 3, zcI (128), zstI 4, zcI (0), zstI 5, zfal 1]
def zo240_1 : List zO := [zldI 4, zcI (127), zic 5 4, zldI 3, zcI (10), zic 3 4, zldI 4, zstI 5, zldA 0, zcal 238 1 1 13, zstI 4, zldL 1, zldI 3, zcI (10), zic 3 2, zldI 4, zcI (127), zbI 3, zun 1, zcI (7), zldI 3, zbI 2, zsL 0, zgo 3]
def zo240_2 : List zO := [zcL (0), zfal 3]
def zo240_3 : List zO := [zbL 4, zstL 1, zinc 3 (1), zgo 1]
def zo240_4 : List zO := [zldI 3, zcI (1), zic 5 7, zldI 4, zif 1 5, zldI 5, zcI (64), zbI 3, zif 0 6, zfal 5]
def zo240_5 : List zO := [zldI 4, zcI (127), zic 1 7, zldI 5, zcI (64), zbI 3, zif 5 7, zfal 6]
def zo240_6 : List zO := [zcI (1), zgo 8]
def zo240_7 : List zO := [zcI (0), zfal 8]
def zo240_8 : List zO := [zstI 6, zldI 3, zcI (10), zic 1 9, zldI 4, zif 0 9, zldI 4, zcI (127), zic 0 9, zcI (1), zgo 10]
def zo240_9 : List zO := [zcI (0), zfal 10]
def zo240_10 : List zO := [zstI 7, zldA 0, zget 13 13 0, zif 1 12, zldI 4, zcI (127), zic 4 11, zldI 6, zif 1 11, zldI 7, zif 0 12, zfal 11]
def zo240_11 : List zO := [zldA 0, zcI (2), zldA 0, zget 13 22 0, zcI (1), zbI 1, zcal 237 3 1 13, zun 1, zret 3]
def zo240_12 : List zO := [zldI 3, zcI (10), zic 3 13, zldI 4, zcI (64), zbI 3, zif 5 13, zldL 1, zcL (-1), zcI (7), zldI 3, zbI 2, zsL 0, zbL 4, zgo 14]
def zo240_13 : List zO := [zldL 1, zfal 14]
def zo240_14 : List zO := [zret 3]
def zt240 (b : Nat) : List zO := match b with
  | 0 => zo240_0
  | 1 => zo240_1
  | 2 => zo240_2
  | 3 => zo240_3
  | 4 => zo240_4
  | 5 => zo240_5
  | 6 => zo240_6
  | 7 => zo240_7
  | 8 => zo240_8
  | 9 => zo240_9
  | 10 => zo240_10
  | 11 => zo240_11
  | 12 => zo240_12
  | 13 => zo240_13
  | 14 => zo240_14
  | _ => []
def zo241_0 : List zO := [zldI 1, zif 1 1, zldA 0, zcI (3), zldA 0, zget 13 22 0, zcI (1), zbI 1, zcal 237 3 1 13, zstI 2, zfal 1]
def zo241_1 : List zO := [zret 0]
def zt241 (b : Nat) : List zO := match b with
  | 0 => zo241_0
  | 1 => zo241_1
  | _ => []
def zo242_0 : List zO := [zldA 0, zget 13 22 0, zstI 2, zldA 0, zcal 238 1 1 13, zstI 3, zldA 0, zldA 0, zget 13 13 0, zif 4 1, zldI 3, zcI (12), zic 3 2, zfal 1]
def zo242_1 : List zO := [zcI (1), zgo 3]
def zo242_2 : List zO := [zcI (0), zfal 3]
def zo242_3 : List zO := [zcal 241 2 1 13, zldI 1, zif 3 4, zcI (1), zgo 5]
def zo242_4 : List zO := [zldA 0, zget 13 25 2, zldI 1, zald 0, zcI (1), zbI 0, zfal 5]
def zo242_5 : List zO := [zstI 4, zldA 0, zget 13 13 0, zif 1 6, zldI 4, zcI (60), zic 5 6, zldA 0, zcI (5), zldI 2, zcal 237 3 1 13, zstI 5, zfal 6]
def zo242_6 : List zO := [zldA 0, zget 13 13 0, zif 1 7, zldA 0, zget 13 7 0, zcI (200), zic 1 7, zldA 0, zcI (6), zldI 2, zcal 237 3 1 13, zstI 5, zfal 7]
def zo242_7 : List zO := [zldA 0, zget 13 13 0, zif 5 8, zret 0]
def zo242_8 : List zO := [zldI 1, zif 3 9, zcI (0), zgo 10]
def zo242_9 : List zO := [zldA 0, zget 13 26 2, zldI 1, zald 0, zfal 10]
def zo242_10 : List zO := [zstI 5, zldA 0, zldI 3, zcL (0), zcal 231 3 1 13, zstI 6, zldA 0, zget 13 23 2, zldA 0, zget 13 24 0, zldI 6, zast 0, zldA 0, zget 13 25 2, zldA 0, zget 13 24 0, zldI 4, zast 0, zldA 0, zget 13 26 2, zldA 0, zget 13 24 0, zldI 5, zldI 3, zcI (1), zic 1 11, zcI (1), zgo 12]
def zo242_11 : List zO := [zcI (0), zfal 12]
def zo242_12 : List zO := [zbI 0, zast 0, zldA 0, zget 13 27 2, zldA 0, zget 13 24 0, zldI 3, zcal 229 1 0 13, zast 0, zldA 0, zdup, zget 13 24 0, zcI (1), zbI 0, zput 13 24 0, zldI 3, zif 1 16, zldA 0, zget 13 3 2, zldI 6, zldA 0, zcal 239 1 1 13, zast 1, zldA 0, zldA 0, zget 13 13 0, zif 4 13, zldA 0, zget 13 3 2, zldI 6, zald 1, zcL (1), zcmp, zif 2 14, zldA 0, zget 13 3 2, zldI 6, zald 1, zcL (200), zcmp, zif 4 14, zfal 13]
def zo242_13 : List zO := [zcI (1), zgo 15]
def zo242_14 : List zO := [zcI (0), zfal 15]
def zo242_15 : List zO := [zcal 241 2 1 13, zldA 0, zget 13 13 0, zif 1 29, zldA 0, zget 13 3 2, zldI 6, zald 1, zldI 5, zun 1, zcmp, zif 5 29, zldA 0, zcI (4), zldI 2, zcal 237 3 1 13, zstI 7, zgo 29]
def zo242_16 : List zO := [zldI 3, zcI (6), zic 0 17, zldI 3, zcI (9), zic 1 23, zfal 17]
def zo242_17 : List zO := [zldA 0, zget 13 3 2, zldI 6, zldA 0, zcal 238 1 1 13, zun 1, zast 1, zldA 0, zldA 0, zget 13 13 0, zif 4 20, zldA 0, zget 13 3 2, zldI 6, zald 1, zldI 3, zcI (6), zic 1 18, zcL (32), zgo 19]
def zo242_18 : List zO := [zcL (2), zfal 19]
def zo242_19 : List zO := [zcmp, zif 3 21, zfal 20]
def zo242_20 : List zO := [zcI (1), zgo 22]
def zo242_21 : List zO := [zcI (0), zfal 22]
def zo242_22 : List zO := [zcal 241 2 1 13, zgo 29]
def zo242_23 : List zO := [zldI 3, zcI (7), zic 1 24, zldA 0, zget 13 3 2, zldI 6, zldA 0, zcal 240 1 1 13, zast 1, zgo 29]
def zo242_24 : List zO := [zldI 3, zcI (8), zic 1 29, zldA 0, zcal 238 1 1 13, zstI 7, zldA 0, zldA 0, zget 13 13 0, zif 4 25, zldI 7, zcI (64), zic 4 26, zfal 25]
def zo242_25 : List zO := [zcI (1), zgo 27]
def zo242_26 : List zO := [zcI (0), zfal 27]
def zo242_27 : List zO := [zcal 241 2 1 13, zcI (0), zstI 8, zfal 28]
def zo242_28 : List zO := [zldI 8, zldI 7, zic 3 29, zldA 0, zget 13 13 0, zif 1 29, zldA 0, zldI 6, zldA 0, zcal 238 1 1 13, zun 1, zcI (1), zcal 236 4 1 13, zinc 8 (1), zgo 28]
def zo242_29 : List zO := [zldI 1, zif 2 31, zldA 0, zget 13 23 2, zldI 1, zald 0, zstI 7, zldA 0, zget 13 27 2, zldI 1, zdup2, zald 0, zcI (1), zbI 1, zast 0, zldA 0, zget 13 4 2, zldI 7, zald 0, zif 3 30, zldA 0, zget 13 4 2, zldI 7, zldI 6, zast 0, zgo 31]
def zo242_30 : List zO := [zldA 0, zget 13 5 2, zldI 7, zldI 6, zast 0, zfal 31]
def zo242_31 : List zO := [zret 0]
def zt242 (b : Nat) : List zO := match b with
  | 0 => zo242_0
  | 1 => zo242_1
  | 2 => zo242_2
  | 3 => zo242_3
  | 4 => zo242_4
  | 5 => zo242_5
  | 6 => zo242_6
  | 7 => zo242_7
  | 8 => zo242_8
  | 9 => zo242_9
  | 10 => zo242_10
  | 11 => zo242_11
  | 12 => zo242_12
  | 13 => zo242_13
  | 14 => zo242_14
  | 15 => zo242_15
  | 16 => zo242_16
  | 17 => zo242_17
  | 18 => zo242_18
  | 19 => zo242_19
  | 20 => zo242_20
  | 21 => zo242_21
  | 22 => zo242_22
  | 23 => zo242_23
  | 24 => zo242_24
  | 25 => zo242_25
  | 26 => zo242_26
  | 27 => zo242_27
  | 28 => zo242_28
  | 29 => zo242_29
  | 30 => zo242_30
  | 31 => zo242_31
  | _ => []
def zo243_0 : List zO := [zldA 0, zget 13 24 0, zcI (1), zbI 1, zstI 1, zfal 1]
def zo243_1 : List zO := [zldI 1, zif 2 2, zldA 0, zget 13 27 2, zldI 1, zald 0, zif 1 2, zinc 1 (-1), zgo 1]
def zo243_2 : List zO := [zldI 1, zret 1]
def zt243 (b : Nat) : List zO := match b with
  | 0 => zo243_0
  | 1 => zo243_1
  | 2 => zo243_2
  | _ => []
def zo244_0 : List zO := [zldA 0, zcI (0), zput 13 0 0, zldA 0, zget 13 12 0, zldA 0, zget 13 11 0, zic 1 1, zcI (-1), zret 1]
def zo244_1 : List zO := [zldA 0, zcI (0), zput 13 13 0, zldA 0, zcI (-1), zput 13 14 0, zldA 0, zldA 0, zget 13 12 0, zput 13 22 0, zldA 0, zcI (0), zput 13 24 0, zldA 0, zcI (-1), zcal 242 2 1 13, zldA 0, zcal 243 1 1 13, zstI 1, zfal 2]
def zo244_2 : List zO := [zldI 1, zif 2 3, zldA 0, zget 13 13 0, zif 1 3, zldA 0, zldI 1, zcal 242 2 1 13, zldA 0, zcal 243 1 1 13, zstI 1, zgo 2]
def zo244_3 : List zO := [zldA 0, zget 13 13 0, zif 5 6, zcI (0), zstI 1, zfal 4]
def zo244_4 : List zO := [zldI 1, zldA 0, zget 13 24 0, zic 3 5, zldA 0, zldA 0, zget 13 23 2, zldI 1, zald 0, zcal 232 2 1 13, zinc 1 (1), zgo 4]
def zo244_5 : List zO := [zldA 0, zget 13 13 0, zret 1]
def zo244_6 : List zO := [zldA 0, zldA 0, zget 13 22 0, zput 13 12 0, zldA 0, zget 13 8 2, zldA 0, zget 13 9 0, zldA 0, zget 13 23 2, zcI (0), zald 0, zast 0, zldA 0, zdup, zget 13 9 0, zcI (1), zbI 0, zput 13 9 0, zcI (0), zret 1]
def zt244 (b : Nat) : List zO := match b with
  | 0 => zo244_0
  | 1 => zo244_1
  | 2 => zo244_2
  | 3 => zo244_3
  | 4 => zo244_4
  | 5 => zo244_5
  | 6 => zo244_6
  | _ => []
def zo245_0 : List zO := [zldA 0, zoini, zldA 0, zcI (4096), znewa 15, zput 14 1 2, zldA 0, zcI (32), znewa 16, zput 14 4 2, zldA 0, zcI (32), znewa 16, zput 14 5 2, zldA 0, zcI (32), znewa 16, zput 14 6 2, zldA 0, zcI (32), znewa 16, zput 14 7 2, zldA 0, zcI (6080), znewa 16, zput 14 8 2, zldA 0, zcI (6080), znewa 17, zput 14 9 2, zldA 0, zcI (389120), znewa 15, zput 14 10 2, zldA 0, zcI (1024), znewa 16, zput 14 14 2, zldA 0, zcI (1024), znewa 16, zput 14 15 2, zldA 0, zcI (8192), znewa 16, zput 14 16 2, zldA 0, zcI (8192), znewa 17, zput 14 17 2, zldA 0, zcI (8192), znewa 17, zput 14 18 2, zldA 0, zcI (131072), znewa 15, zput 14 19 2, zldA 0, zcI (1024), znewa 16, zput 14 20 2, zldA 0, zcI (1024), znewa 16, zput 14 21 2, zldA 0, zcI (1024), znewa 16, zput 14 22 2, zldA 0, zcI (4200), znewa 17, zput 14 25 2, zldA 0, zcI (4200), znewa 16, zput 14 26 2, zldA 0, zcI (4200), znewa 16, zput 14 27 2, zldA 0, zcI (-1), zput 14 30 0, zldA 0, zcI (-1), zput 14 31 0, zldA 0, zcI (-1), zput 14 33 0, zldA 0, zcI (-1), zput 14 34 0, zldA 0, zcI (-1), zput 14 35 0, zldA 0, zcI (-1), zput 14 36 0, zldA 0, zcI (200), znewa 16, zput 14 39 2, zldA 0, zcI (200), znewa 17, zput 14 40 2, zldA 0, zcI (200), znewa 16, zput 14 41 2, zldA 0, zcI (200), znewa 16, zput 14 42 2, zldA 0, zcI (200), znewa 16, zput 14 43 2, zldA 0, zcI (200), znewa 16, zput 14 44 2, zldA 0, zcI (200), znewa 16, zput 14 45 2, zldA 0, zcI (14), znewa 17, zput 14 46 2, zldA 0, zcI (8), znewa 16, zput 14 50 2, zldA 0, zcI (8), znewa 16, zput 14 51 2, zldA 0, zcI (4), znewa 16, zput 14 53 2, zldA 0, zcI (144), znewa 16, zput 14 56 2, zldA 0, zcI (144), znewa 17, zput 14 57 2, zldA 0, zcI (144), znewa 17, zput 14 58 2, zldA 0, zcI (144), znewa 17, zput 14 59 2, zldA 0, zcI (144), znewa 17, zput 14 60 2, zldA 0, znew 13 28, zdup, zcal 228 1 2 13, zput 14 61 2, zldA 0, znew 12 58, zdup, zcal 178 1 2 12, zput 14 62 2, zldA 0, zcI (200), znewa 16, zput 14 64 2, zldA 0, zcI (200), znewa 16, zput 14 65 2, zldA 0, zcI (200), znewa 16, zput 14 67 2, zldA 0, zcI (200), znewa 17, zput 14 68 2, zldA 0, zcI (200), znewa 16, zput 14 69 2, zldA 0, zcI (200), znewa 16, zput 14 70 2, zldA 0, zcI (200), znewa 16, zput 14 71 2, zldA 0, zcI (200), znewa 16, zput 14 72 2, zldA 0, zcI (4096), znewa 15, zput 14 73 2, zldA 0, zldI 1, zcI (1), zic 3 1, zcI (1), zgo 3]
def zo245_1 : List zO := [zldI 1, zcI (64), zic 5 2, zcI (64), zgo 3]
def zo245_2 : List zO := [zldI 1, zfal 3]
def zo245_3 : List zO := [zput 14 0 0, zret 0]
def zt245 (b : Nat) : List zO := match b with
  | 0 => zo245_0
  | 1 => zo245_1
  | 2 => zo245_2
  | 3 => zo245_3
  | _ => []
def zo246_0 : List zO := [zldA 0, zget 14 63 0, zret 1]
def zt246 (b : Nat) : List zO := match b with
  | 0 => zo246_0
  | _ => []
def zo247_0 : List zO := [zldA 0, zcI (0), zput 14 63 0, zldI 3, zcI (1), zic 2 1, zldI 3, zcI (8), zic 4 1, zldA 0, zget 14 2 0, zldI 3, zbI 0, zcI (4096), zic 5 2, zfal 1]
def zo247_1 : List zO := [zcI (0), zret 2]
def zo247_2 : List zO := [zldI 3, zcI (1), zbI 1, zstI 4, zfal 3]
def zo247_3 : List zO := [zldI 4, zif 2 4, zldA 0, zget 14 1 2, zldA 0, zget 14 2 0, zldL 1, zcI (8), zldI 4, zbI 2, zsL 1, zun 2, zun 3, zast 3, zldA 0, zdup, zget 14 2 0, zcI (1), zbI 0, zput 14 2 0, zinc 4 (-1), zgo 3]
def zo247_4 : List zO := [zcI (1), zret 2]
def zt247 (b : Nat) : List zO := match b with
  | 0 => zo247_0
  | 1 => zo247_1
  | 2 => zo247_2
  | 3 => zo247_3
  | 4 => zo247_4
  | _ => []
def zo248_0 : List zO := [zldA 0, zcI (0), zput 14 63 0, zldA 0, zcI (0), zput 14 2 0, zret 0]
def zt248 (b : Nat) : List zO := match b with
  | 0 => zo248_0
  | _ => []
def zo249_0 : List zO := [zldI 1, zif 2 1, zldI 1, zldA 0, zget 14 11 0, zic 3 1, zldA 0, zget 14 22 2, zldI 1, zald 0, zif 3 1, zcI (1), zgo 2]
def zo249_1 : List zO := [zcI (0), zfal 2]
def zo249_2 : List zO := [zret 2]
def zt249 (b : Nat) : List zO := match b with
  | 0 => zo249_0
  | 1 => zo249_1
  | 2 => zo249_2
  | _ => []
def zo250_0 : List zO := [zcI (0), zstI 5, zfal 1]
def zo250_1 : List zO := [zldI 5, zldA 0, zget 14 15 2, zldI 1, zald 0, zic 3 3, zldA 0, zget 14 16 2, zcI (8), zldI 1, zbI 2, zldI 5, zbI 0, zald 0, zldI 2, zic 1 2, zldA 0, zget 14 17 2, zcI (8), zldI 1, zbI 2, zldI 5, zbI 0, zald 1, zldL 3, zcmp, zif 1 2, zldA 0, zget 14 18 2, zcI (8), zldI 1, zbI 2, zldI 5, zbI 0, zald 1, zret 3]
def zo250_2 : List zO := [zinc 5 (1), zgo 1]
def zo250_3 : List zO := [zcL (0), zret 3]
def zt250 (b : Nat) : List zO := match b with
  | 0 => zo250_0
  | 1 => zo250_1
  | 2 => zo250_2
  | 3 => zo250_3
  | _ => []
def zo251_0 : List zO := [zcL (0), zstL 1, zcI (0), zstI 3, zfal 1]
def zo251_1 : List zO := [zldI 3, zldA 0, zget 14 23 0, zic 4 2, zldL 1, zldA 0, zget 14 25 2, zldI 3, zald 1, zbL 0, zstL 1, zinc 3 (1), zgo 1]
def zo251_2 : List zO := [zldL 1, zret 3]
def zt251 (b : Nat) : List zO := match b with
  | 0 => zo251_0
  | 1 => zo251_1
  | 2 => zo251_2
  | _ => []
def zo252_0 : List zO := [zldI 1, zif 1 1, zldL 2, zcL (0), zcmp, zif 1 1, zldA 0, zcal 251 1 1 14, zgo 2]
def zo252_1 : List zO := [zcL (0), zfal 2]
def zo252_2 : List zO := [zstL 4, zcI (0), zstI 6, zfal 3]
def zo252_3 : List zO := [zldI 6, zldA 0, zget 14 11 0, zic 3 6, zldL 4, zldA 0, zldI 6, zcal 249 2 1 14, zif 0 4, zldA 0, zldI 6, zldI 1, zldL 2, zcal 250 4 1 14, zgo 5]
def zo252_4 : List zO := [zcL (0), zfal 5]
def zo252_5 : List zO := [zbL 0, zstL 4, zinc 6 (1), zgo 3]
def zo252_6 : List zO := [zldL 4, zret 3]
def zt252 (b : Nat) : List zO := match b with
  | 0 => zo252_0
  | 1 => zo252_1
  | 2 => zo252_2
  | 3 => zo252_3
  | 4 => zo252_4
  | 5 => zo252_5
  | 6 => zo252_6
  | _ => []
def zo253_0 : List zO := [zldA 0, zget 14 11 0, zstI 2, zldA 0, zdup, zget 14 11 0, zcI (1), zbI 0, zput 14 11 0, zldA 0, zget 14 14 2, zldI 2, zldI 1, zast 0, zldA 0, zget 14 15 2, zldI 2, zcI (0), zast 0, zldA 0, zget 14 20 2, zldI 2, zcI (0), zast 0, zldA 0, zget 14 21 2, zldI 2, zldA 0, zget 14 23 0, zast 0, zldA 0, zget 14 22 2, zldI 2, zcI (-1), zast 0, zldI 2, zret 1]
def zt253 (b : Nat) : List zO := match b with
  | 0 => zo253_0
  | _ => []
def zo254_0 : List zO := [zcI (8), zldI 1, zbI 2, zldA 0, zget 14 15 2, zldI 1, zald 0, zbI 0, zstI 7, zldA 0, zget 14 16 2, zldI 7, zldI 2, zast 0, zldA 0, zget 14 17 2, zldI 7, zldL 3, zast 1, zldA 0, zget 14 18 2, zldI 7, zldL 5, zast 1, zldA 0, zget 14 15 2, zldI 1, zdup2, zald 0, zcI (1), zbI 0, zast 0, zret 0]
def zt254 (b : Nat) : List zO := match b with
  | 0 => zo254_0
  | _ => []
def zo255_0 : List zO := [zldA 0, zcI (0), zput 14 63 0, zldA 0, zget 14 13 3, zif 1 1, zldI 1, zif 2 1, zldI 1, zcI (255), zic 4 1, zldL 2, zcL (2), zcmp, zif 2 1, zldL 2, zcL (4611686018427387904), zcmp, zif 4 1, zldL 2, zcL (4611686018427387904), zldA 0, zcI (0), zcL (0), zcal 252 3 1 14, zbL 1, zcmp, zif 4 1, zldA 0, zget 14 11 0, zcI (1024), zic 1 2, zfal 1]
def zo255_1 : List zO := [zcI (-1), zret 1]
def zo255_2 : List zO := [zldA 0, zldI 1, zcal 253 2 1 14, zstI 4, zldA 0, zldI 4, zcI (0), zcL (0), zldL 2, zcal 254 5 1 14, zldA 0, zget 14 19 2, zcI (128), zldI 4, zbI 2, zcI (0), zast 3, zldA 0, zget 14 20 2, zldI 4, zcI (1), zast 0, zldA 0, zdup, zget 14 12 0, zcI (1), zbI 0, zput 14 12 0, zldI 4, zret 1]
def zt255 (b : Nat) : List zO := match b with
  | 0 => zo255_0
  | 1 => zo255_1
  | 2 => zo255_2
  | _ => []
def zo256_0 : List zO := [zldA 0, zcI (0), zput 14 63 0, zldA 0, zget 14 2 0, zstI 1, zldA 0, zcI (0), zput 14 2 0, zldI 1, zif 1 1, zcI (-1), zret 1]
def zo256_1 : List zO := [zldA 0, zget 14 61 2, zcal 235 1 1 13, zldA 0, zget 14 61 2, zldI 1, zput 13 11 0, zcI (0), zstI 2, zfal 2]
def zo256_2 : List zO := [zldI 2, zldI 1, zic 3 3, zldA 0, zget 14 61 2, zget 13 10 2, zldI 2, zldA 0, zget 14 1 2, zldI 2, zald 3, zast 3, zinc 2 (1), zgo 2]
def zo256_3 : List zO := [zldA 0, zget 14 61 2, zcI (0), zput 13 12 0, zldA 0, zget 14 61 2, zcal 244 1 1 13, zstI 2, zldI 2, zif 5 4, zldI 2, zun 0, zret 1]
def zo256_4 : List zO := [zldA 0, zget 14 61 2, zget 13 12 0, zldI 1, zic 3 5, zcI (-7), zret 1]
def zo256_5 : List zO := [zldA 0, zget 14 61 2, zldA 0, zget 14 61 2, zget 13 8 2, zcI (0), zald 0, zcal 234 2 1 13, zstI 3, zldA 0, zget 14 61 2, zget 13 18 0, zcI (190), zic 5 6, zcI (-8), zret 1]
def zo256_6 : List zO := [zldA 0, zget 14 3 0, zcI (32), zic 1 7, zcI (-9), zret 1]
def zo256_7 : List zO := [zcI (0), zstI 4, zfal 8]
def zo256_8 : List zO := [zldI 4, zldA 0, zget 14 61 2, zget 13 18 0, zic 3 11, zldA 0, zget 14 61 2, zget 13 15 2, zldI 4, zald 0, zstI 5, zcI (190), zldA 0, zget 14 3 0, zbI 2, zldI 4, zbI 0, zstI 6, zldA 0, zget 14 8 2, zldI 6, zldA 0, zget 14 61 2, zget 13 2 2, zldI 5, zald 0, zast 0, zldA 0, zget 14 9 2, zldI 6, zldA 0, zget 14 61 2, zget 13 3 2, zldI 5, zald 1, zast 1, zcI (0), zstI 7, zfal 9]
def zo256_9 : List zO := [zldI 7, zcI (64), zic 3 10, zldA 0, zget 14 10 2, zcI (64), zldI 6, zbI 2, zldI 7, zbI 0, zldA 0, zget 14 61 2, zget 13 6 2, zcI (64), zldI 5, zbI 2, zldI 7, zbI 0, zald 3, zast 3, zinc 7 (1), zgo 9]
def zo256_10 : List zO := [zinc 4 (1), zgo 8]
def zo256_11 : List zO := [zldA 0, zget 14 4 2, zldA 0, zget 14 3 0, zldA 0, zget 14 61 2, zget 13 18 0, zast 0, zldA 0, zget 14 5 2, zldA 0, zget 14 3 0, zldI 3, zast 0, zldA 0, zget 14 6 2, zldA 0, zget 14 3 0, zldI 1, zast 0, zldA 0, zdup, zget 14 3 0, zcI (1), zbI 0, zput 14 3 0, zldA 0, zget 14 3 0, zcI (1), zbI 1, zret 1]
def zt256 (b : Nat) : List zO := match b with
  | 0 => zo256_0
  | 1 => zo256_1
  | 2 => zo256_2
  | 3 => zo256_3
  | 4 => zo256_4
  | 5 => zo256_5
  | 6 => zo256_6
  | 7 => zo256_7
  | 8 => zo256_8
  | 9 => zo256_9
  | 10 => zo256_10
  | 11 => zo256_11
  | _ => []
def zo257_0 : List zO := [zldI 0, zcI (2), zic 1 1, zcI (2), zgo 4]
def zo257_1 : List zO := [zldI 0, zcI (1), zic 0 2, zldI 0, zcI (3), zic 0 2, zldI 0, zcI (4), zic 1 3, zfal 2]
def zo257_2 : List zO := [zcI (1), zgo 4]
def zo257_3 : List zO := [zcI (0), zfal 4]
def zo257_4 : List zO := [zret 1]
def zt257 (b : Nat) : List zO := match b with
  | 0 => zo257_0
  | 1 => zo257_1
  | 2 => zo257_2
  | 3 => zo257_3
  | 4 => zo257_4
  | _ => []
def zo258_0 : List zO := [zcI (0), zstI 2, zcI (0), zstI 3, zfal 1]
def zo258_1 : List zO := [zldI 3, zldA 0, zget 14 4 2, zldI 1, zald 0, zic 3 4, zldA 0, zget 14 64 2, zldI 2, zcI (190), zldI 1, zbI 2, zldI 3, zbI 0, zast 0, zldA 0, zget 14 65 2, zldI 2, zldA 0, zget 14 8 2, zcI (190), zldI 1, zbI 2, zldI 3, zbI 0, zald 0, zcal 257 1 0 14, zast 0, zinc 2 (1), zfal 2]
def zo258_2 : List zO := [zldI 2, zif 5 3, zldA 0, zget 14 65 2, zldI 2, zcI (1), zbI 1, zald 0, zif 1 3, zinc 2 (-1), zldA 0, zldA 0, zget 14 64 2, zldI 2, zald 0, zcal 259 2 1 14, zldI 2, zif 5 2, zldA 0, zget 14 65 2, zldI 2, zcI (1), zbI 1, zdup2, zald 0, zcI (1), zbI 1, zast 0, zgo 2]
def zo258_3 : List zO := [zinc 3 (1), zgo 1]
def zo258_4 : List zO := [zret 0]
def zt258 (b : Nat) : List zO := match b with
  | 0 => zo258_0
  | 1 => zo258_1
  | 2 => zo258_2
  | 3 => zo258_3
  | 4 => zo258_4
  | _ => []
def zo259_0 : List zO := [zldA 0, zget 14 8 2, zldI 1, zald 0, zcI (8), zic 0 1, zldA 0, zget 14 62 2, zldA 0, zget 14 8 2, zldI 1, zald 0, zldA 0, zget 14 9 2, zldI 1, zald 1, zcal 182 3 1 12, zstI 2, zret 0]
def zo259_1 : List zO := [zldA 0, zget 14 62 2, zcL (0), zcI (0), zcal 184 3 1 12, zstI 2, zcI (0), zstI 3, zfal 2]
def zo259_2 : List zO := [zldI 3, zun 1, zldA 0, zget 14 9 2, zldI 1, zald 1, zcmp, zif 3 3, zldA 0, zget 14 62 2, zldA 0, zget 14 10 2, zcI (64), zldI 1, zbI 2, zldI 3, zbI 0, zald 3, zun 1, zcI (1), zcal 186 3 1 12, zstI 4, zinc 3 (1), zgo 2]
def zo259_3 : List zO := [zret 0]
def zt259 (b : Nat) : List zO := match b with
  | 0 => zo259_0
  | 1 => zo259_1
  | 2 => zo259_2
  | 3 => zo259_3
  | _ => []
def zo260_0 : List zO := [zldA 0, zget 14 48 0, zif 1 1, zldA 0, zldI 1, zput 14 48 0, zldA 0, zldI 2, zput 14 31 0, zfal 1]
def zo260_1 : List zO := [zcI (0), zret 1]
def zt260 (b : Nat) : List zO := match b with
  | 0 => zo260_0
  | 1 => zo260_1
  | _ => []
def zo261_0 : List zO := [zldA 0, zget 14 48 0, zif 1 1, zldA 0, zget 14 47 0, zldA 0, zget 14 2 0, zic 1 1, zldA 0, zcI (1), zldA 0, zget 14 2 0, zcal 260 3 1 14, zret 1]
def zo261_1 : List zO := [zldA 0, zget 14 48 0, zif 5 2, zcI (0), zret 1]
def zo261_2 : List zO := [zldA 0, zdup, zget 14 47 0, zcI (1), zbI 0, zput 14 47 0, zldA 0, zget 14 1 2, zldA 0, zget 14 47 0, zcI (1), zbI 1, zald 3, zcI (255), zbI 3, zret 1]
def zt261 (b : Nat) : List zO := match b with
  | 0 => zo261_0
  | 1 => zo261_1
  | 2 => zo261_2
  | _ => []
def zo262_0 : List zO := [zldA 0, zget 14 47 0, zstI 2, zldA 0, zcal 261 1 1 14, zstI 3, zldI 3, zcI (5), zbI 6, zstI 4, zldI 3, zcI (31), zbI 3, zstI 5, zldA 0, zget 14 48 0, zif 1 2, zldI 5, zcI (27), zic 4 1, zldI 4, zcI (3), zic 0 1, zldI 4, zcI (7), zic 0 1, zldI 1, zif 2 2, zldI 4, zldI 1, zic 0 2, zfal 1]
def zo262_1 : List zO := [zldA 0, zcI (3), zldI 2, zcal 260 3 1 14, zret 1]
def zo262_2 : List zO := [zldA 0, zldI 5, zun 1, zput 14 49 1, zldI 5, zcI (23), zic 5 9, zcI (1), zldI 5, zcI (24), zbI 1, zbI 5, zstI 6, zldA 0, zcL (0), zput 14 49 1, zcI (0), zstI 7, zfal 3]
def zo262_3 : List zO := [zldI 7, zldI 6, zic 3 4, zldA 0, zldA 0, zget 14 49 1, zcI (8), zsL 0, zldA 0, zcal 261 1 1 14, zun 1, zbL 4, zput 14 49 1, zinc 7 (1), zgo 3]
def zo262_4 : List zO := [zldI 5, zcI (24), zic 1 5, zcL (24), zgo 8]
def zo262_5 : List zO := [zldI 5, zcI (25), zic 1 6, zcL (256), zgo 8]
def zo262_6 : List zO := [zldI 5, zcI (26), zic 1 7, zcL (65536), zgo 8]
def zo262_7 : List zO := [zcL (4294967296), zfal 8]
def zo262_8 : List zO := [zstL 7, zldA 0, zget 14 48 0, zif 1 9, zldA 0, zget 14 49 1, zcL (0), zcmp, zif 2 9, zldA 0, zget 14 49 1, zldL 7, zcmp, zif 3 9, zldA 0, zcI (2), zldI 2, zcal 260 3 1 14, zret 1]
def zo262_9 : List zO := [zldI 4, zret 1]
def zt262 (b : Nat) : List zO := match b with
  | 0 => zo262_0
  | 1 => zo262_1
  | 2 => zo262_2
  | 3 => zo262_3
  | 4 => zo262_4
  | 5 => zo262_5
  | 6 => zo262_6
  | 7 => zo262_7
  | 8 => zo262_8
  | 9 => zo262_9
  | _ => []
def zo263_0 : List zO := [zldA 0, zget 14 49 1, zcL (121), zcmp, zif 2 1, zldA 0, zget 14 49 1, zcL (127), zcmp, zif 5 2, zfal 1]
def zo263_1 : List zO := [zldA 0, zget 14 49 1, zcL (1280), zcmp, zif 2 3, zldA 0, zget 14 49 1, zcL (1400), zcmp, zif 4 3, zfal 2]
def zo263_2 : List zO := [zcI (1), zgo 4]
def zo263_3 : List zO := [zcI (0), zfal 4]
def zo263_4 : List zO := [zstI 2, zldI 1, zcI (2), zic 3 6, zldA 0, zget 14 49 1, zcL (0), zcmp, zif 2 5, zcI (1), zgo 11]
def zo263_5 : List zO := [zcI (0), zgo 11]
def zo263_6 : List zO := [zldI 1, zcI (2), zic 1 8, zldA 0, zget 14 49 1, zcL (0), zcmp, zif 2 7, zldA 0, zget 14 49 1, zcL (64), zcmp, zif 4 7, zcI (1), zgo 11]
def zo263_7 : List zO := [zcI (0), zgo 11]
def zo263_8 : List zO := [zldI 1, zcI (6), zic 1 9, zldI 2, zif 0 10, zfal 9]
def zo263_9 : List zO := [zcI (1), zgo 11]
def zo263_10 : List zO := [zcI (0), zfal 11]
def zo263_11 : List zO := [zret 2]
def zt263 (b : Nat) : List zO := match b with
  | 0 => zo263_0
  | 1 => zo263_1
  | 2 => zo263_2
  | 3 => zo263_3
  | 4 => zo263_4
  | 5 => zo263_5
  | 6 => zo263_6
  | 7 => zo263_7
  | 8 => zo263_8
  | 9 => zo263_9
  | 10 => zo263_10
  | 11 => zo263_11
  | _ => []
def zo264_0 : List zO := [zldA 0, zget 14 47 0, zstI 2, zldA 0, zcI (-1), zcal 262 2 1 14, zstI 3, zldA 0, zget 14 48 0, zif 1 1, zldA 0, zldI 3, zcal 263 2 1 14, zif 1 1, zldA 0, zcI (3), zldI 2, zcal 260 3 1 14, zun 1, zret 3]
def zo264_1 : List zO := [zldA 0, zget 14 48 0, zif 1 2, zldI 1, zcI (12), zic 5 2, zldA 0, zcI (4), zldI 2, zcal 260 3 1 14, zun 1, zret 3]
def zo264_2 : List zO := [zldA 0, zget 14 48 0, zif 1 3, zldA 0, zget 14 38 0, zcI (200), zic 1 3, zldA 0, zcI (5), zldI 2, zcal 260 3 1 14, zun 1, zret 3]
def zo264_3 : List zO := [zldA 0, zget 14 48 0, zif 5 4, zcL (0), zret 3]
def zo264_4 : List zO := [zldA 0, zget 14 38 0, zstI 4, zldA 0, zdup, zget 14 38 0, zcI (1), zbI 0, zput 14 38 0, zldA 0, zget 14 43 2, zldI 4, zldI 2, zast 0, zldA 0, zget 14 45 2, zldI 4, zldI 1, zast 0, zldA 0, zget 14 39 2, zldI 4, zldI 3, zcI (6), zic 1 5, zcI (0), zgo 9]
def zo264_5 : List zO := [zldI 3, zcI (5), zic 1 6, zcI (1), zgo 9]
def zo264_6 : List zO := [zldI 3, zcI (4), zic 1 7, zcI (2), zgo 9]
def zo264_7 : List zO := [zldI 3, zcI (2), zic 1 8, zcI (4), zgo 9]
def zo264_8 : List zO := [zcI (3), zfal 9]
def zo264_9 : List zO := [zast 0, zldA 0, zget 14 40 2, zldI 4, zldI 3, zif 1 10, zldA 0, zget 14 49 1, zgo 14]
def zo264_10 : List zO := [zldI 3, zcI (1), zic 1 11, zcL (-1), zldA 0, zget 14 49 1, zbL 1, zgo 14]
def zo264_11 : List zO := [zldI 3, zcI (6), zic 0 12, zcL (0), zgo 14]
def zo264_12 : List zO := [zldA 0, zget 14 49 1, zcL (128), zcmp, zif 3 13, zldA 0, zget 14 49 1, zcL (121), zbL 1, zgo 14]
def zo264_13 : List zO := [zldA 0, zget 14 49 1, zcL (1273), zbL 1, zfal 14]
def zo264_14 : List zO := [zast 1, zldA 0, zget 14 41 2, zldI 4, zcI (0), zast 0, zldA 0, zget 14 44 2, zldI 4, zldA 0, zget 14 47 0, zast 0, zldI 3, zcI (2), zic 3 15, zcL (0), zret 3]
def zo264_15 : List zO := [zldI 3, zcI (2), zic 1 18, zldA 0, zget 14 41 2, zldI 4, zldA 0, zget 14 49 1, zun 2, zast 0, zcI (0), zstI 5, zfal 16]
def zo264_16 : List zO := [zldI 5, zldA 0, zget 14 41 2, zldI 4, zald 0, zic 3 17, zldA 0, zcal 261 1 1 14, zstI 6, zinc 5 (1), zgo 16]
def zo264_17 : List zO := [zcL (0), zret 3]
def zo264_18 : List zO := [zldI 3, zcI (6), zic 1 19, zldA 0, zcI (4), zcal 262 2 1 14, zstI 5, zfal 19]
def zo264_19 : List zO := [zldA 0, zget 14 49 1, zcL (0), zcmp, zif 2 20, zldA 0, zget 14 49 1, zcL (1000), zcmp, zif 5 21, zfal 20]
def zo264_20 : List zO := [zcL (1000), zgo 22]
def zo264_21 : List zO := [zldA 0, zget 14 49 1, zfal 22]
def zo264_22 : List zO := [zstL 5, zldA 0, zget 14 41 2, zldI 4, zldL 5, zun 2, zast 0, zldA 0, zget 14 48 0, zif 5 23, zcL (0), zgo 25]
def zo264_23 : List zO := [zldI 3, zcI (5), zic 1 24, zcL (2), zldL 5, zbL 2, zgo 25]
def zo264_24 : List zO := [zldL 5, zfal 25]
def zo264_25 : List zO := [zret 3]
def zt264 (b : Nat) : List zO := match b with
  | 0 => zo264_0
  | 1 => zo264_1
  | 2 => zo264_2
  | 3 => zo264_3
  | 4 => zo264_4
  | 5 => zo264_5
  | 6 => zo264_6
  | 7 => zo264_7
  | 8 => zo264_8
  | 9 => zo264_9
  | 10 => zo264_10
  | 11 => zo264_11
  | 12 => zo264_12
  | 13 => zo264_13
  | 14 => zo264_14
  | 15 => zo264_15
  | 16 => zo264_16
  | 17 => zo264_17
  | 18 => zo264_18
  | 19 => zo264_19
  | 20 => zo264_20
  | 21 => zo264_21
  | 22 => zo264_22
  | 23 => zo264_23
  | 24 => zo264_24
  | 25 => zo264_25
  | _ => []
def zo265_0 : List zO := [zldA 0, zcI (0), zput 14 38 0, zldA 0, zcI (0), zput 14 47 0, zldA 0, zcI (0), zput 14 48 0, zldA 0, zcI (-1), zput 14 31 0, zcI (1), zstI 1, zldA 0, zget 14 46 2, zcI (1), zcL (1), zast 1, zfal 1]
def zo265_1 : List zO := [zldI 1, zif 5 4, zldA 0, zget 14 48 0, zif 1 4, zldA 0, zget 14 46 2, zldI 1, zald 1, zcL (0), zcmp, zif 1 2, zinc 1 (-1), zgo 1]
def zo265_2 : List zO := [zldA 0, zget 14 46 2, zldI 1, zdup2, zald 1, zcL (1), zbL 1, zast 1, zldA 0, zldI 1, zcal 264 2 1 14, zstL 2, zldL 2, zcL (0), zcmp, zif 5 3, zinc 1 (1), zldA 0, zget 14 46 2, zldI 1, zldL 2, zast 1, zfal 3]
def zo265_3 : List zO := [zgo 1]
def zo265_4 : List zO := [zcI (0), zstI 2, zfal 5]
def zo265_5 : List zO := [zldI 2, zldA 0, zget 14 38 0, zic 3 8, zldA 0, zget 14 48 0, zif 1 8, zcI (1), zstI 3, zfal 6]
def zo265_6 : List zO := [zldI 2, zldI 3, zbI 0, zldA 0, zget 14 38 0, zic 3 7, zldA 0, zget 14 45 2, zldI 2, zldI 3, zbI 0, zald 0, zldA 0, zget 14 45 2, zldI 2, zald 0, zic 5 7, zinc 3 (1), zgo 6]
def zo265_7 : List zO := [zldA 0, zget 14 42 2, zldI 2, zldI 3, zast 0, zinc 2 (1), zgo 5]
def zo265_8 : List zO := [zret 0]
def zt265 (b : Nat) : List zO := match b with
  | 0 => zo265_0
  | 1 => zo265_1
  | 2 => zo265_2
  | 3 => zo265_3
  | 4 => zo265_4
  | 5 => zo265_5
  | 6 => zo265_6
  | 7 => zo265_7
  | 8 => zo265_8
  | _ => []
def zo266_0 : List zO := [zldI 1, zcI (1), zbI 0, zstI 3, zcI (0), zstI 4, zfal 1]
def zo266_1 : List zO := [zldI 4, zldI 2, zic 3 2, zldI 3, zldA 0, zget 14 42 2, zldI 3, zald 0, zbI 0, zstI 3, zinc 4 (1), zgo 1]
def zo266_2 : List zO := [zldI 3, zret 1]
def zt266 (b : Nat) : List zO := match b with
  | 0 => zo266_0
  | 1 => zo266_1
  | 2 => zo266_2
  | _ => []
def zo267_0 : List zO := [zldA 0, zget 14 39 2, zldI 1, zald 0, zif 1 1, zldA 0, zget 14 40 2, zldI 1, zald 1, zldI 2, zun 1, zcmp, zif 1 1, zldA 0, zget 14 41 2, zldI 1, zald 0, zldI 3, zic 1 1, zcI (1), zgo 2]
def zo267_1 : List zO := [zcI (0), zfal 2]
def zo267_2 : List zO := [zret 2]
def zt267 (b : Nat) : List zO := match b with
  | 0 => zo267_0
  | 1 => zo267_1
  | 2 => zo267_2
  | _ => []
def zo268_0 : List zO := [zldA 0, zget 14 39 2, zldI 1, zald 0, zcI (2), zic 1 1, zldA 0, zget 14 41 2, zldI 1, zald 0, zldI 2, zic 2 1, zldA 0, zget 14 41 2, zldI 1, zald 0, zldI 3, zic 4 1, zcI (1), zgo 2]
def zo268_1 : List zO := [zcI (0), zfal 2]
def zo268_2 : List zO := [zret 2]
def zt268 (b : Nat) : List zO := match b with
  | 0 => zo268_0
  | 1 => zo268_1
  | 2 => zo268_2
  | _ => []
def zo269_0 : List zO := [zldA 0, zget 14 39 2, zldI 1, zald 0, zcI (3), zic 1 1, zldA 0, zget 14 40 2, zldI 1, zald 1, zldL 2, zcmp, zif 2 1, zldA 0, zget 14 40 2, zldI 1, zald 1, zldL 4, zcmp, zif 4 1, zcI (1), zgo 2]
def zo269_1 : List zO := [zcI (0), zfal 2]
def zo269_2 : List zO := [zret 2]
def zt269 (b : Nat) : List zO := match b with
  | 0 => zo269_0
  | 1 => zo269_1
  | 2 => zo269_2
  | _ => []
def zo270_0 : List zO := [zldI 1, zldA 0, zget 14 42 2, zldI 1, zald 0, zbI 0, zldA 0, zget 14 38 0, zic 3 1, zldA 0, zget 14 43 2, zldI 1, zldA 0, zget 14 42 2, zldI 1, zald 0, zbI 0, zald 0, zgo 2]
def zo270_1 : List zO := [zldA 0, zget 14 47 0, zfal 2]
def zo270_2 : List zO := [zret 1]
def zt270 (b : Nat) : List zO := match b with
  | 0 => zo270_0
  | 1 => zo270_1
  | 2 => zo270_2
  | _ => []
def zo271_0 : List zO := [zldA 0, zldI 1, zcI (0), zcI (1), zcal 267 4 1 14, zif 0 1, zldA 0, zldI 1, zcI (1), zbI 0, zcL (0), zcL (255), zcal 269 4 1 14, zif 0 1, zcI (1), zgo 2]
def zo271_1 : List zO := [zcI (0), zfal 2]
def zo271_2 : List zO := [zstI 2, zldI 2, zif 1 3, zldA 0, zldI 1, zcI (1), zcI (1), zcal 267 4 1 14, zif 0 4, zldA 0, zldI 1, zcI (1), zbI 0, zcL (0), zldA 0, zget 14 3 0, zun 1, zcL (1), zbL 1, zcal 269 4 1 14, zif 0 4, zfal 3]
def zo271_3 : List zO := [zcI (1), zgo 5]
def zo271_4 : List zO := [zcI (0), zfal 5]
def zo271_5 : List zO := [zret 2]
def zt271 (b : Nat) : List zO := match b with
  | 0 => zo271_0
  | 1 => zo271_1
  | 2 => zo271_2
  | 3 => zo271_3
  | 4 => zo271_4
  | 5 => zo271_5
  | _ => []
def zo272_0 : List zO := [zldL 0, zldL 4, zcmp, zif 2 1, zldL 0, zldL 4, zcmp, zif 1 2, zldL 2, zcL (-9223372036854775808), zbL 0, zldL 6, zcL (-9223372036854775808), zbL 0, zcmp, zif 3 2, zfal 1]
def zo272_1 : List zO := [zcI (1), zgo 3]
def zo272_2 : List zO := [zcI (0), zfal 3]
def zo272_3 : List zO := [zret 2]
def zt272 (b : Nat) : List zO := match b with
  | 0 => zo272_0
  | 1 => zo272_1
  | 2 => zo272_2
  | 3 => zo272_3
  | _ => []
def zo273_0 : List zO := [zldA 0, zldI 1, zldI 2, zif 0 1, zcI (0), zgo 2]
def zo273_1 : List zO := [zcI (1), zfal 2]
def zo273_2 : List zO := [zcI (8), zcal 268 4 1 14, zif 1 3, zcI (0), zret 2]
def zo273_3 : List zO := [zcI (1), zstI 3, zcI (0), zstI 4, zfal 4]
def zo273_4 : List zO := [zldI 4, zldA 0, zget 14 41 2, zldI 1, zald 0, zic 3 17, zldI 3, zif 0 17, zldA 0, zldI 1, zldI 4, zcal 266 3 1 14, zstI 5, zldA 0, zldI 5, zcI (3), zcI (3), zcal 268 4 1 14, zif 0 9, zldA 0, zldI 5, zcI (1), zbI 0, zldI 2, zif 0 5, zcL (1), zgo 6]
def zo273_5 : List zO := [zcL (0), zfal 6]
def zo273_6 : List zO := [zldA 0, zget 14 3 0, zun 1, zcal 269 4 1 14, zif 0 9, zldA 0, zldI 5, zcI (2), zbI 0, zcL (-9223372036854775808), zcL (9223372036854775807), zcal 269 4 1 14, zif 0 9, zldA 0, zldI 5, zcI (3), zbI 0, zldI 2, zif 0 7, zcL (-4611686018427387904), zgo 8]
def zo273_7 : List zO := [zcL (1), zfal 8]
def zo273_8 : List zO := [zcL (4611686018427387904), zcal 269 4 1 14, zif 0 9, zcI (1), zgo 10]
def zo273_9 : List zO := [zcI (0), zfal 10]
def zo273_10 : List zO := [zstI 3, zldI 3, zif 0 12, zldA 0, zget 14 40 2, zldI 5, zcI (1), zbI 0, zald 1, zcL (0), zcmp, zif 4 11, zldA 0, zget 14 40 2, zldI 5, zcI (2), zbI 0, zald 1, zcL (0), zcmp, zif 1 12, zfal 11]
def zo273_11 : List zO := [zldA 0, zget 14 40 2, zldI 5, zcI (3), zbI 0, zald 1, zcL (0), zcmp, zif 0 12, zcI (1), zgo 13]
def zo273_12 : List zO := [zcI (0), zfal 13]
def zo273_13 : List zO := [zstI 3, zldI 3, zif 0 15, zldI 4, zif 0 14, zldA 0, zget 14 40 2, zldI 5, zcI (3), zbI 1, zald 1, zldA 0, zget 14 40 2, zldI 5, zcI (2), zbI 1, zald 1, zldA 0, zget 14 40 2, zldI 5, zcI (1), zbI 0, zald 1, zldA 0, zget 14 40 2, zldI 5, zcI (2), zbI 0, zald 1, zcal 272 4 0 14, zif 0 15, zfal 14]
def zo273_14 : List zO := [zcI (1), zgo 16]
def zo273_15 : List zO := [zcI (0), zfal 16]
def zo273_16 : List zO := [zstI 3, zinc 4 (1), zgo 4]
def zo273_17 : List zO := [zldI 3, zret 2]
def zt273 (b : Nat) : List zO := match b with
  | 0 => zo273_0
  | 1 => zo273_1
  | 2 => zo273_2
  | 3 => zo273_3
  | 4 => zo273_4
  | 5 => zo273_5
  | 6 => zo273_6
  | 7 => zo273_7
  | 8 => zo273_8
  | 9 => zo273_9
  | 10 => zo273_10
  | 11 => zo273_11
  | 12 => zo273_12
  | 13 => zo273_13
  | 14 => zo273_14
  | 15 => zo273_15
  | 16 => zo273_16
  | 17 => zo273_17
  | _ => []
def zo274_0 : List zO := [zldA 0, zldI 1, zcI (0), zcI (3), zcal 267 4 1 14, zif 0 1, zldA 0, zldI 1, zcI (1), zbI 0, zcal 271 2 1 14, zif 1 2, zfal 1]
def zo274_1 : List zO := [zcI (0), zret 2]
def zo274_2 : List zO := [zldA 0, zldI 1, zcI (1), zcal 266 3 1 14, zstI 2, zldA 0, zldI 1, zcI (2), zcal 266 3 1 14, zstI 3, zldA 0, zldI 2, zcI (0), zcal 273 3 1 14, zif 0 3, zldA 0, zldI 3, zcal 270 2 1 14, zldA 0, zget 14 43 2, zldI 3, zald 0, zbI 1, zcI (128), zic 4 3, zcI (1), zgo 4]
def zo274_3 : List zO := [zcI (0), zfal 4]
def zo274_4 : List zO := [zret 2]
def zt274 (b : Nat) : List zO := match b with
  | 0 => zo274_0
  | 1 => zo274_1
  | 2 => zo274_2
  | 3 => zo274_3
  | 4 => zo274_4
  | _ => []
def zo275_0 : List zO := [zldA 0, zget 14 39 2, zldI 1, zald 0, zcI (1), zic 1 1, zldA 0, zget 14 41 2, zldI 1, zald 0, zcI (8), zic 5 2, zfal 1]
def zo275_1 : List zO := [zcI (0), zret 2]
def zo275_2 : List zO := [zcI (0), zstI 3, zcL (0), zstL 4, zcI (1), zstI 6, zcI (0), zstI 7, zfal 3]
def zo275_3 : List zO := [zldI 7, zldA 0, zget 14 41 2, zldI 2, zald 0, zic 3 7, zldA 0, zget 14 40 2, zldA 0, zldI 2, zldI 7, zcal 266 3 1 14, zcI (1), zbI 0, zald 1, zstL 8, zldL 8, zldL 4, zcmp, zif 0 6, zldI 6, zif 0 4, zldI 3, zldA 0, zget 14 41 2, zldI 1, zald 0, zic 3 4, zldA 0, zget 14 39 2, zldA 0, zldI 1, zcI (2), zldI 3, zbI 2, zcal 266 3 1 14, zald 0, zcI (3), zic 1 4, zldA 0, zget 14 40 2, zldA 0, zldI 1, zcI (2), zldI 3, zbI 2, zcal 266 3 1 14, zald 1, zldL 8, zcmp, zif 1 4, zcI (1), zgo 5]
def zo275_4 : List zO := [zcI (0), zfal 5]
def zo275_5 : List zO := [zstI 6, zinc 3 (1), zfal 6]
def zo275_6 : List zO := [zldL 8, zstL 4, zinc 7 (1), zgo 3]
def zo275_7 : List zO := [zldI 6, zif 0 8, zldI 3, zldA 0, zget 14 41 2, zldI 1, zald 0, zic 1 8, zcI (1), zgo 9]
def zo275_8 : List zO := [zcI (0), zfal 9]
def zo275_9 : List zO := [zret 2]
def zt275 (b : Nat) : List zO := match b with
  | 0 => zo275_0
  | 1 => zo275_1
  | 2 => zo275_2
  | 3 => zo275_3
  | 4 => zo275_4
  | 5 => zo275_5
  | 6 => zo275_6
  | 7 => zo275_7
  | 8 => zo275_8
  | 9 => zo275_9
  | _ => []
def zo276_0 : List zO := [zldA 0, zldI 1, zcI (0), zcI (8), zcal 268 4 1 14, zstI 2, zcI (0), zstI 3, zfal 1]
def zo276_1 : List zO := [zldI 2, zif 0 4, zldI 3, zldA 0, zget 14 41 2, zldI 1, zald 0, zic 3 4, zldA 0, zldI 1, zcI (1), zbI 0, zldI 3, zbI 0, zldI 3, zif 1 2, zcL (0), zgo 3]
def zo276_2 : List zO := [zldA 0, zget 14 40 2, zldI 1, zldI 3, zbI 0, zald 1, zcL (1), zbL 0, zfal 3]
def zo276_3 : List zO := [zcL (255), zcal 269 4 1 14, zstI 2, zinc 3 (1), zgo 1]
def zo276_4 : List zO := [zldI 2, zret 2]
def zt276 (b : Nat) : List zO := match b with
  | 0 => zo276_0
  | 1 => zo276_1
  | 2 => zo276_2
  | 3 => zo276_3
  | 4 => zo276_4
  | _ => []
def zo277_0 : List zO := [zldA 0, zcI (0), zcI (0), zcI (8), zcal 267 4 1 14, zif 1 1, zcI (0), zret 2]
def zo277_1 : List zO := [zcI (0), zstI 1, zfal 2]
def zo277_2 : List zO := [zldI 1, zcI (8), zic 3 3, zldA 0, zget 14 50 2, zldI 1, zldA 0, zcI (0), zldI 1, zcal 266 3 1 14, zast 0, zinc 1 (1), zgo 2]
def zo277_3 : List zO := [zldA 0, zldA 0, zget 14 50 2, zcI (0), zald 0, zcI (1), zcI (8), zcal 268 4 1 14, zif 0 4, zldA 0, zldA 0, zget 14 50 2, zcI (1), zald 0, zcI (0), zcI (4), zcal 268 4 1 14, zif 0 4, zldA 0, zldA 0, zget 14 50 2, zcI (2), zald 0, zcI (0), zcI (8), zcal 268 4 1 14, zif 0 4, zcI (1), zgo 5]
def zo277_4 : List zO := [zcI (0), zfal 5]
def zo277_5 : List zO := [zstI 1, zcI (0), zstI 2, zfal 6]
def zo277_6 : List zO := [zldI 1, zif 0 9, zldI 2, zldA 0, zget 14 41 2, zldA 0, zget 14 50 2, zcI (0), zald 0, zald 0, zic 3 9, zldA 0, zldA 0, zget 14 50 2, zcI (0), zald 0, zldI 2, zcal 266 3 1 14, zstI 3, zldA 0, zldI 3, zcI (0), zcI (2), zcal 267 4 1 14, zif 0 7, zldA 0, zget 14 39 2, zldI 3, zcI (1), zbI 0, zald 0, zcI (3), zic 1 7, zcI (1), zgo 8]
def zo277_7 : List zO := [zcI (0), zfal 8]
def zo277_8 : List zO := [zstI 1, zinc 2 (1), zgo 6]
def zo277_9 : List zO := [zcI (0), zstI 2, zfal 10]
def zo277_10 : List zO := [zldI 1, zif 0 13, zldI 2, zldA 0, zget 14 41 2, zldA 0, zget 14 50 2, zcI (1), zald 0, zald 0, zic 3 13, zldA 0, zget 14 39 2, zldA 0, zldA 0, zget 14 50 2, zcI (1), zald 0, zldI 2, zcal 266 3 1 14, zald 0, zcI (3), zic 1 11, zcI (1), zgo 12]
def zo277_11 : List zO := [zcI (0), zfal 12]
def zo277_12 : List zO := [zstI 1, zinc 2 (1), zgo 10]
def zo277_13 : List zO := [zcI (0), zstI 2, zfal 14]
def zo277_14 : List zO := [zldI 1, zif 0 15, zldI 2, zldA 0, zget 14 41 2, zldA 0, zget 14 50 2, zcI (2), zald 0, zald 0, zic 3 15, zldA 0, zldA 0, zldA 0, zget 14 50 2, zcI (2), zald 0, zldI 2, zcal 266 3 1 14, zcal 274 2 1 14, zstI 1, zinc 2 (1), zgo 14]
def zo277_15 : List zO := [zldA 0, zget 14 50 2, zcI (4), zald 0, zstI 2, zldI 1, zif 0 16, zldA 0, zldA 0, zget 14 50 2, zcI (3), zald 0, zcL (0), zcL (4611686018427387904), zcal 269 4 1 14, zif 0 16, zldA 0, zldI 2, zcI (2), zcI (2), zcal 268 4 1 14, zif 0 16, zldA 0, zget 14 39 2, zldI 2, zcI (1), zbI 0, zald 0, zcI (3), zic 1 16, zldA 0, zget 14 39 2, zldA 0, zldI 2, zcI (1), zcal 266 3 1 14, zald 0, zcI (3), zic 1 16, zldA 0, zldA 0, zget 14 50 2, zcI (5), zald 0, zcI (1), zcal 273 3 1 14, zif 0 16, zldA 0, zldA 0, zget 14 50 2, zcI (6), zald 0, zldA 0, zget 14 50 2, zcI (5), zald 0, zcal 275 3 1 14, zif 0 16, zldA 0, zldA 0, zget 14 50 2, zcI (7), zald 0, zcal 276 2 1 14, zif 0 16, zcI (1), zgo 17]
def zo277_16 : List zO := [zcI (0), zfal 17]
def zo277_17 : List zO := [zret 2]
def zt277 (b : Nat) : List zO := match b with
  | 0 => zo277_0
  | 1 => zo277_1
  | 2 => zo277_2
  | 3 => zo277_3
  | 4 => zo277_4
  | 5 => zo277_5
  | 6 => zo277_6
  | 7 => zo277_7
  | 8 => zo277_8
  | 9 => zo277_9
  | 10 => zo277_10
  | 11 => zo277_11
  | 12 => zo277_12
  | 13 => zo277_13
  | 14 => zo277_14
  | 15 => zo277_15
  | 16 => zo277_16
  | 17 => zo277_17
  | _ => []
def zo278_0 : List zO := [zldA 0, zldA 0, zget 14 41 2, zldA 0, zget 14 50 2, zcI (0), zald 0, zald 0, zput 14 52 0, zldA 0, zldA 0, zget 14 41 2, zldA 0, zget 14 50 2, zcI (1), zald 0, zald 0, zput 14 54 0, zcI (1), zstI 1, zcI (0), zstI 2, zfal 1]
def zo278_1 : List zO := [zldI 2, zldA 0, zget 14 52 0, zic 3 10, zldA 0, zget 14 40 2, zldA 0, zldA 0, zget 14 50 2, zcI (0), zald 0, zldI 2, zcal 266 3 1 14, zcI (1), zbI 0, zald 1, zstL 3, zldA 0, zget 14 51 2, zldI 2, zldL 3, zcL (0), zcmp, zif 2 2, zldL 3, zldA 0, zget 14 11 0, zun 1, zcmp, zif 3 2, zldA 0, zldL 3, zun 2, zcal 249 2 1 14, zif 0 2, zldL 3, zun 2, zgo 3]
def zo278_2 : List zO := [zcI (-1), zfal 3]
def zo278_3 : List zO := [zast 0, zldI 1, zif 0 4, zldA 0, zget 14 51 2, zldI 2, zald 0, zif 2 4, zcI (1), zgo 5]
def zo278_4 : List zO := [zcI (0), zfal 5]
def zo278_5 : List zO := [zstI 1, zcI (0), zstI 5, zfal 6]
def zo278_6 : List zO := [zldI 5, zldI 2, zic 3 9, zldI 1, zif 0 7, zldA 0, zget 14 51 2, zldI 5, zald 0, zldA 0, zget 14 51 2, zldI 2, zald 0, zic 0 7, zcI (1), zgo 8]
def zo278_7 : List zO := [zcI (0), zfal 8]
def zo278_8 : List zO := [zstI 1, zinc 5 (1), zgo 6]
def zo278_9 : List zO := [zinc 2 (1), zgo 1]
def zo278_10 : List zO := [zcI (0), zstI 2, zfal 11]
def zo278_11 : List zO := [zldI 2, zldA 0, zget 14 54 0, zic 3 24, zldA 0, zget 14 40 2, zldA 0, zget 14 50 2, zcI (1), zald 0, zcI (1), zbI 0, zldI 2, zbI 0, zald 1, zstL 3, zldA 0, zget 14 53 2, zldI 2, zldL 3, zcL (0), zcmp, zif 2 12, zldL 3, zldA 0, zget 14 11 0, zun 1, zcmp, zif 3 12, zldA 0, zldL 3, zun 2, zcal 249 2 1 14, zif 0 12, zldL 3, zun 2, zgo 13]
def zo278_12 : List zO := [zcI (-1), zfal 13]
def zo278_13 : List zO := [zast 0, zldI 1, zif 0 14, zldA 0, zget 14 53 2, zldI 2, zald 0, zif 2 14, zcI (1), zgo 15]
def zo278_14 : List zO := [zcI (0), zfal 15]
def zo278_15 : List zO := [zstI 1, zcI (0), zstI 5, zfal 16]
def zo278_16 : List zO := [zldI 5, zldI 2, zic 3 19, zldI 1, zif 0 17, zldA 0, zget 14 53 2, zldI 5, zald 0, zldA 0, zget 14 53 2, zldI 2, zald 0, zic 0 17, zcI (1), zgo 18]
def zo278_17 : List zO := [zcI (0), zfal 18]
def zo278_18 : List zO := [zstI 1, zinc 5 (1), zgo 16]
def zo278_19 : List zO := [zcI (0), zstI 5, zfal 20]
def zo278_20 : List zO := [zldI 5, zldA 0, zget 14 52 0, zic 3 23, zldI 1, zif 0 21, zldA 0, zget 14 51 2, zldI 5, zald 0, zldA 0, zget 14 53 2, zldI 2, zald 0, zic 0 21, zcI (1), zgo 22]
def zo278_21 : List zO := [zcI (0), zfal 22]
def zo278_22 : List zO := [zstI 1, zinc 5 (1), zgo 20]
def zo278_23 : List zO := [zinc 2 (1), zgo 11]
def zo278_24 : List zO := [zldI 1, zret 2]
def zt278 (b : Nat) : List zO := match b with
  | 0 => zo278_0
  | 1 => zo278_1
  | 2 => zo278_2
  | 3 => zo278_3
  | 4 => zo278_4
  | 5 => zo278_5
  | 6 => zo278_6
  | 7 => zo278_7
  | 8 => zo278_8
  | 9 => zo278_9
  | 10 => zo278_10
  | 11 => zo278_11
  | 12 => zo278_12
  | 13 => zo278_13
  | 14 => zo278_14
  | 15 => zo278_15
  | 16 => zo278_16
  | 17 => zo278_17
  | 18 => zo278_18
  | 19 => zo278_19
  | 20 => zo278_20
  | 21 => zo278_21
  | 22 => zo278_22
  | 23 => zo278_23
  | 24 => zo278_24
  | _ => []
def zo279_0 : List zO := [zcI (0), zstI 4, zfal 1]
def zo279_1 : List zO := [zldI 4, zldA 0, zget 14 55 0, zic 3 2, zldA 0, zget 14 56 2, zldI 4, zald 0, zun 1, zldA 0, zget 14 57 2, zldI 4, zald 1, zldI 1, zun 1, zldL 2, zcal 272 4 0 14, zif 0 2, zinc 4 (1), zgo 1]
def zo279_2 : List zO := [zldI 4, zldA 0, zget 14 55 0, zic 3 3, zldA 0, zget 14 56 2, zldI 4, zald 0, zldI 1, zic 1 3, zldA 0, zget 14 57 2, zldI 4, zald 1, zldL 2, zcmp, zif 1 3, zldI 4, zret 1]
def zo279_3 : List zO := [zldA 0, zget 14 55 0, zstI 5, zfal 4]
def zo279_4 : List zO := [zldI 5, zldI 4, zic 5 5, zldA 0, zget 14 56 2, zldI 5, zldA 0, zget 14 56 2, zldI 5, zcI (1), zbI 1, zald 0, zast 0, zldA 0, zget 14 57 2, zldI 5, zldA 0, zget 14 57 2, zldI 5, zcI (1), zbI 1, zald 1, zast 1, zldA 0, zget 14 58 2, zldI 5, zldA 0, zget 14 58 2, zldI 5, zcI (1), zbI 1, zald 1, zast 1, zldA 0, zget 14 59 2, zldI 5, zldA 0, zget 14 59 2, zldI 5, zcI (1), zbI 1, zald 1, zast 1, zldA 0, zget 14 60 2, zldI 5, zldA 0, zget 14 60 2, zldI 5, zcI (1), zbI 1, zald 1, zast 1, zinc 5 (-1), zgo 4]
def zo279_5 : List zO := [zldA 0, zdup, zget 14 55 0, zcI (1), zbI 0, zput 14 55 0, zldA 0, zget 14 56 2, zldI 4, zldI 1, zast 0, zldA 0, zget 14 57 2, zldI 4, zldL 2, zast 1, zldA 0, zget 14 58 2, zldI 4, zcL (0), zast 1, zldA 0, zget 14 59 2, zldI 4, zcL (0), zast 1, zldA 0, zget 14 60 2, zldI 4, zcL (0), zast 1, zldI 4, zret 1]
def zt279 (b : Nat) : List zO := match b with
  | 0 => zo279_0
  | 1 => zo279_1
  | 2 => zo279_2
  | 3 => zo279_3
  | 4 => zo279_4
  | 5 => zo279_5
  | _ => []
def zo280_0 : List zO := [zldA 0, zcI (0), zput 14 55 0, zcI (0), zstI 1, zfal 1]
def zo280_1 : List zO := [zldI 1, zldA 0, zget 14 52 0, zic 3 4, zcI (0), zstI 2, zfal 2]
def zo280_2 : List zO := [zldI 2, zldA 0, zget 14 15 2, zldA 0, zget 14 51 2, zldI 1, zald 0, zald 0, zic 3 3, zcI (8), zldA 0, zget 14 51 2, zldI 1, zald 0, zbI 2, zldI 2, zbI 0, zstI 3, zldA 0, zldA 0, zget 14 16 2, zldI 3, zald 0, zldA 0, zget 14 17 2, zldI 3, zald 1, zcal 279 3 1 14, zstI 4, zldA 0, zget 14 58 2, zldI 4, zdup2, zald 1, zldA 0, zget 14 18 2, zldI 3, zald 1, zbL 0, zast 1, zinc 2 (1), zgo 2]
def zo280_3 : List zO := [zinc 1 (1), zgo 1]
def zo280_4 : List zO := [zret 0]
def zt280 (b : Nat) : List zO := match b with
  | 0 => zo280_0
  | 1 => zo280_1
  | 2 => zo280_2
  | 3 => zo280_3
  | 4 => zo280_4
  | _ => []
def zo281_0 : List zO := [zldL 0, zcL (4611686018427387904), zldL 2, zbL 1, zcmp, zif 5 1, zcL (4611686018427387905), zgo 2]
def zo281_1 : List zO := [zldL 0, zldL 2, zbL 0, zfal 2]
def zo281_2 : List zO := [zret 3]
def zt281 (b : Nat) : List zO := match b with
  | 0 => zo281_0
  | 1 => zo281_1
  | 2 => zo281_2
  | _ => []
def zo282_0 : List zO := [zldA 0, zcal 280 1 1 14, zcI (0), zstI 1, zfal 1]
def zo282_1 : List zO := [zldI 1, zldA 0, zget 14 41 2, zldA 0, zget 14 50 2, zcI (5), zald 0, zald 0, zic 3 2, zldA 0, zldA 0, zget 14 50 2, zcI (5), zald 0, zldI 1, zcal 266 3 1 14, zstI 2, zldA 0, zldA 0, zget 14 40 2, zldI 2, zcI (1), zbI 0, zald 1, zun 2, zldA 0, zget 14 40 2, zldI 2, zcI (2), zbI 0, zald 1, zcal 279 3 1 14, zstI 3, zldA 0, zget 14 60 2, zldI 3, zldA 0, zget 14 40 2, zldI 2, zcI (3), zbI 0, zald 1, zast 1, zinc 1 (1), zgo 1]
def zo282_2 : List zO := [zldA 0, zcI (0), zcL (0), zcal 279 3 1 14, zstI 1, zldA 0, zget 14 59 2, zldI 1, zldA 0, zget 14 40 2, zldA 0, zget 14 50 2, zcI (3), zald 0, zald 1, zast 1, zcI (0), zstI 2, zfal 3]
def zo282_3 : List zO := [zldI 2, zldA 0, zget 14 41 2, zldA 0, zget 14 50 2, zcI (2), zald 0, zald 0, zic 3 6, zldA 0, zldA 0, zldA 0, zget 14 50 2, zcI (2), zald 0, zldI 2, zcal 266 3 1 14, zcI (1), zcal 266 3 1 14, zstI 3, zcI (0), zstI 4, zfal 4]
def zo282_4 : List zO := [zldI 4, zldA 0, zget 14 41 2, zldI 3, zald 0, zic 3 5, zldA 0, zldI 3, zldI 4, zcal 266 3 1 14, zstI 5, zldA 0, zldA 0, zget 14 40 2, zldI 5, zcI (1), zbI 0, zald 1, zun 2, zldA 0, zget 14 40 2, zldI 5, zcI (2), zbI 0, zald 1, zcal 279 3 1 14, zstI 6, zldA 0, zget 14 59 2, zldI 6, zldA 0, zget 14 59 2, zldI 6, zald 1, zldA 0, zget 14 40 2, zldI 5, zcI (3), zbI 0, zald 1, zcal 281 2 0 14, zast 1, zinc 4 (1), zgo 4]
def zo282_5 : List zO := [zinc 2 (1), zgo 3]
def zo282_6 : List zO := [zcI (1), zstI 2, zcI (0), zstI 3, zfal 7]
def zo282_7 : List zO := [zldI 3, zldA 0, zget 14 55 0, zic 3 13, zldA 0, zldA 0, zget 14 56 2, zldI 3, zald 0, zldA 0, zget 14 57 2, zldI 3, zald 1, zcal 252 3 1 14, zstL 4, zldA 0, zget 14 60 2, zldI 3, zald 1, zcL (4611686018427387904), zldL 4, zbL 1, zcmp, zif 4 8, zcI (1), zgo 9]
def zo282_8 : List zO := [zcI (0), zfal 9]
def zo282_9 : List zO := [zstI 6, zldI 2, zif 0 11, zldI 6, zif 0 11, zldI 6, zif 0 10, zldA 0, zget 14 58 2, zldI 3, zald 1, zldA 0, zget 14 60 2, zldI 3, zald 1, zbL 0, zldA 0, zget 14 59 2, zldI 3, zald 1, zcmp, zif 1 11, zfal 10]
def zo282_10 : List zO := [zcI (1), zgo 12]
def zo282_11 : List zO := [zcI (0), zfal 12]
def zo282_12 : List zO := [zstI 2, zinc 3 (1), zgo 7]
def zo282_13 : List zO := [zldI 2, zret 2]
def zt282 (b : Nat) : List zO := match b with
  | 0 => zo282_0
  | 1 => zo282_1
  | 2 => zo282_2
  | 3 => zo282_3
  | 4 => zo282_4
  | 5 => zo282_5
  | 6 => zo282_6
  | 7 => zo282_7
  | 8 => zo282_8
  | 9 => zo282_9
  | 10 => zo282_10
  | 11 => zo282_11
  | 12 => zo282_12
  | 13 => zo282_13
  | _ => []
def zo283_0 : List zO := [zldA 0, zget 14 14 2, zldI 1, zald 0, zcI (255), zic 5 1, zcI (1), zgo 2]
def zo283_1 : List zO := [zcI (0), zfal 2]
def zo283_2 : List zO := [zstI 2, zcI (0), zstI 3, zfal 3]
def zo283_3 : List zO := [zldI 3, zldA 0, zget 14 41 2, zldA 0, zget 14 50 2, zcI (7), zald 0, zald 0, zic 3 7, zldI 2, zif 1 4, zldA 0, zget 14 40 2, zldA 0, zget 14 50 2, zcI (7), zald 0, zcI (1), zbI 0, zldI 3, zbI 0, zald 1, zldA 0, zget 14 14 2, zldI 1, zald 0, zun 1, zcmp, zif 1 5, zfal 4]
def zo283_4 : List zO := [zcI (1), zgo 6]
def zo283_5 : List zO := [zcI (0), zfal 6]
def zo283_6 : List zO := [zstI 2, zinc 3 (1), zgo 3]
def zo283_7 : List zO := [zldI 2, zret 2]
def zt283 (b : Nat) : List zO := match b with
  | 0 => zo283_0
  | 1 => zo283_1
  | 2 => zo283_2
  | 3 => zo283_3
  | 4 => zo283_4
  | 5 => zo283_5
  | 6 => zo283_6
  | 7 => zo283_7
  | _ => []
def zo284_0 : List zO := [zcI (1), zstI 1, zcI (0), zstI 2, zfal 1]
def zo284_1 : List zO := [zldI 2, zldA 0, zget 14 52 0, zic 3 4, zldI 1, zif 0 2, zldA 0, zldA 0, zget 14 51 2, zldI 2, zald 0, zcal 283 2 1 14, zif 0 2, zcI (1), zgo 3]
def zo284_2 : List zO := [zcI (0), zfal 3]
def zo284_3 : List zO := [zstI 1, zinc 2 (1), zgo 1]
def zo284_4 : List zO := [zcI (0), zstI 2, zfal 5]
def zo284_5 : List zO := [zldI 2, zldA 0, zget 14 54 0, zic 3 8, zldI 1, zif 0 6, zldA 0, zldA 0, zget 14 53 2, zldI 2, zald 0, zcal 283 2 1 14, zif 0 6, zcI (1), zgo 7]
def zo284_6 : List zO := [zcI (0), zfal 7]
def zo284_7 : List zO := [zstI 1, zinc 2 (1), zgo 5]
def zo284_8 : List zO := [zldI 1, zret 2]
def zt284 (b : Nat) : List zO := match b with
  | 0 => zo284_0
  | 1 => zo284_1
  | 2 => zo284_2
  | 3 => zo284_3
  | 4 => zo284_4
  | 5 => zo284_5
  | 6 => zo284_6
  | 7 => zo284_7
  | 8 => zo284_8
  | _ => []
def zo285_0 : List zO := [zldA 0, zget 14 41 2, zldA 0, zget 14 50 2, zcI (5), zald 0, zald 0, zif 5 1, zcI (1), zgo 2]
def zo285_1 : List zO := [zcI (0), zfal 2]
def zo285_2 : List zO := [zstI 1, zcI (0), zstI 2, zfal 3]
def zo285_3 : List zO := [zldI 2, zldA 0, zget 14 52 0, zic 3 7, zldI 1, zif 1 4, zldA 0, zget 14 14 2, zldA 0, zget 14 51 2, zldI 2, zald 0, zald 0, zcI (255), zic 5 5, zfal 4]
def zo285_4 : List zO := [zcI (1), zgo 6]
def zo285_5 : List zO := [zcI (0), zfal 6]
def zo285_6 : List zO := [zstI 1, zinc 2 (1), zgo 3]
def zo285_7 : List zO := [zldI 1, zret 2]
def zt285 (b : Nat) : List zO := match b with
  | 0 => zo285_0
  | 1 => zo285_1
  | 2 => zo285_2
  | 3 => zo285_3
  | 4 => zo285_4
  | 5 => zo285_5
  | 6 => zo285_6
  | 7 => zo285_7
  | _ => []
def zo286_0 : List zO := [zcL (0), zstL 1, zldA 0, zget 14 54 0, zif 5 1, zcI (1), zgo 2]
def zo286_1 : List zO := [zcI (0), zfal 2]
def zo286_2 : List zO := [zstI 3, zcI (0), zstI 4, zfal 3]
def zo286_3 : List zO := [zldI 4, zldA 0, zget 14 54 0, zic 3 6, zldA 0, zget 14 53 2, zldI 4, zald 0, zstI 5, zldI 3, zif 0 4, zldA 0, zget 14 14 2, zldI 5, zald 0, zcI (256), zic 3 4, zldA 0, zget 14 15 2, zldI 5, zald 0, zcI (1), zic 1 4, zldA 0, zget 14 16 2, zcI (8), zldI 5, zbI 2, zald 0, zif 1 4, zcI (1), zgo 5]
def zo286_4 : List zO := [zcI (0), zfal 5]
def zo286_5 : List zO := [zstI 3, zldL 1, zldA 0, zldI 5, zcI (0), zcL (0), zcal 250 4 1 14, zbL 0, zstL 1, zinc 4 (1), zgo 3]
def zo286_6 : List zO := [zldA 0, zget 14 40 2, zldA 0, zget 14 50 2, zcI (3), zald 0, zald 1, zstL 4, zldI 3, zif 0 7, zldL 1, zldL 4, zbL 1, zldL 4, zcmp, zif 2 7, zcI (1), zgo 8]
def zo286_7 : List zO := [zcI (0), zfal 8]
def zo286_8 : List zO := [zret 2]
def zt286 (b : Nat) : List zO := match b with
  | 0 => zo286_0
  | 1 => zo286_1
  | 2 => zo286_2
  | 3 => zo286_3
  | 4 => zo286_4
  | 5 => zo286_5
  | 6 => zo286_6
  | 7 => zo286_7
  | 8 => zo286_8
  | _ => []
def zo287_0 : List zO := [zcI (1), zstI 1, zcI (0), zstI 2, zfal 1]
def zo287_1 : List zO := [zldI 2, zldA 0, zget 14 41 2, zldA 0, zget 14 50 2, zcI (2), zald 0, zald 0, zic 3 4, zldA 0, zldA 0, zldA 0, zldA 0, zget 14 50 2, zcI (2), zald 0, zldI 2, zcal 266 3 1 14, zcI (1), zcal 266 3 1 14, zcI (0), zcal 266 3 1 14, zstI 3, zldI 1, zif 0 2, zldA 0, zget 14 40 2, zldI 3, zcI (1), zbI 0, zald 1, zcL (0), zcmp, zif 1 2, zldA 0, zget 14 40 2, zldI 3, zcI (3), zbI 0, zald 1, zcL (2), zcmp, zif 2 2, zcI (1), zgo 3]
def zo287_2 : List zO := [zcI (0), zfal 3]
def zo287_3 : List zO := [zstI 1, zinc 2 (1), zgo 1]
def zo287_4 : List zO := [zldI 1, zret 2]
def zt287 (b : Nat) : List zO := match b with
  | 0 => zo287_0
  | 1 => zo287_1
  | 2 => zo287_2
  | 3 => zo287_3
  | 4 => zo287_4
  | _ => []
def zo288_0 : List zO := [zldA 0, zcal 280 1 1 14, zcI (4), zldA 0, zget 14 42 2, zldA 0, zget 14 50 2, zcI (4), zald 0, zald 0, zbI 0, zldA 0, zget 14 42 2, zldA 0, zget 14 50 2, zcI (7), zald 0, zald 0, zbI 0, zldA 0, zget 14 42 2, zldA 0, zget 14 50 2, zcI (5), zald 0, zald 0, zbI 0, zcI (1), zbI 0, zcI (4), zldA 0, zget 14 55 0, zbI 2, zbI 0, zcI (1), zbI 0, zcI (4), zldA 0, zget 14 41 2, zldA 0, zget 14 50 2, zcI (2), zald 0, zald 0, zbI 2, zbI 0, zret 1]
def zt288 (b : Nat) : List zO := match b with
  | 0 => zo288_0
  | _ => []
def zo289_0 : List zO := [zldA 0, zget 14 47 0, zldA 0, zget 14 2 0, zic 3 1, zcI (6), zret 1]
def zo289_1 : List zO := [zldA 0, zcal 277 1 1 14, zif 1 2, zcI (7), zret 1]
def zo289_2 : List zO := [zldA 0, zcal 278 1 1 14, zif 1 3, zcI (8), zret 1]
def zo289_3 : List zO := [zldA 0, zget 14 23 0, zun 1, zldA 0, zget 14 40 2, zldA 0, zget 14 50 2, zcI (4), zald 0, zcI (1), zbI 0, zald 1, zcmp, zif 2 4, zldA 0, zget 14 23 0, zun 1, zldA 0, zget 14 40 2, zldA 0, zldA 0, zget 14 50 2, zcI (4), zald 0, zcI (1), zcal 266 3 1 14, zald 1, zcmp, zif 5 5, zfal 4]
def zo289_4 : List zO := [zcI (9), zret 1]
def zo289_5 : List zO := [zldA 0, zget 14 40 2, zldA 0, zget 14 50 2, zcI (3), zald 0, zald 1, zcI (10), zldA 0, zget 14 2 0, zcI (8), zbI 7, zbI 0, zun 1, zcmp, zif 3 6, zcI (10), zret 1]
def zo289_6 : List zO := [zldA 0, zcal 282 1 1 14, zif 1 7, zcI (11), zret 1]
def zo289_7 : List zO := [zldA 0, zcal 284 1 1 14, zif 1 8, zcI (12), zret 1]
def zo289_8 : List zO := [zldA 0, zcal 285 1 1 14, zif 0 9, zldA 0, zcal 286 1 1 14, zif 1 9, zcI (13), zret 1]
def zo289_9 : List zO := [zldA 0, zcal 287 1 1 14, zif 1 10, zcI (14), zret 1]
def zo289_10 : List zO := [zldA 0, zget 14 11 0, zldA 0, zget 14 41 2, zldA 0, zget 14 50 2, zcI (2), zald 0, zald 0, zbI 0, zcI (1024), zic 5 11, zcI (15), zret 1]
def zo289_11 : List zO := [zldA 0, zcal 285 1 1 14, zif 0 12, zldA 0, zcal 288 1 1 14, zcI (200), zic 5 12, zcI (16), zgo 13]
def zo289_12 : List zO := [zcI (0), zfal 13]
def zo289_13 : List zO := [zret 1]
def zt289 (b : Nat) : List zO := match b with
  | 0 => zo289_0
  | 1 => zo289_1
  | 2 => zo289_2
  | 3 => zo289_3
  | 4 => zo289_4
  | 5 => zo289_5
  | 6 => zo289_6
  | 7 => zo289_7
  | 8 => zo289_8
  | 9 => zo289_9
  | 10 => zo289_10
  | 11 => zo289_11
  | 12 => zo289_12
  | 13 => zo289_13
  | _ => []
def zo290_0 : List zO := [zcI (200), zldI 1, zbI 2, zldA 0, zget 14 66 0, zbI 0, zstI 6, zldA 0, zget 14 62 2, zget 12 39 2, zldI 6, zldI 2, zast 0, zldA 0, zget 14 62 2, zget 12 40 2, zldI 6, zldL 3, zast 1, zldA 0, zget 14 62 2, zget 12 41 2, zldI 6, zldI 5, zast 0, zldA 0, zget 14 62 2, zget 12 42 2, zldI 6, zcI (0), zast 0, zldA 0, zdup, zget 14 66 0, zcI (1), zbI 0, zput 14 66 0, zret 0]
def zt290 (b : Nat) : List zO := match b with
  | 0 => zo290_0
  | _ => []
def zo291_0 : List zO := [zldI 2, zstI 3, zfal 1]
def zo291_1 : List zO := [zldI 3, zldI 2, zldA 0, zget 14 42 2, zldI 2, zald 0, zbI 0, zic 3 2, zcI (200), zldI 1, zbI 2, zldA 0, zget 14 66 0, zbI 0, zstI 4, zldA 0, zldI 1, zldA 0, zget 14 39 2, zldI 3, zald 0, zldA 0, zget 14 40 2, zldI 3, zald 1, zldA 0, zget 14 41 2, zldI 3, zald 0, zcal 290 5 1 14, zldA 0, zget 14 62 2, zget 12 42 2, zldI 4, zldA 0, zget 14 44 2, zldI 3, zald 0, zast 0, zinc 3 (1), zgo 1]
def zo291_2 : List zO := [zret 0]
def zt291 (b : Nat) : List zO := match b with
  | 0 => zo291_0
  | 1 => zo291_1
  | 2 => zo291_2
  | _ => []
def zo292_0 : List zO := [zcI (0), zstI 2, zfal 1]
def zo292_1 : List zO := [zldI 2, zldA 0, zget 14 2 0, zic 3 2, zldA 0, zget 14 62 2, zget 12 43 2, zcI (4096), zldI 1, zbI 2, zldI 2, zbI 0, zldA 0, zget 14 1 2, zldI 2, zald 3, zast 3, zinc 2 (1), zgo 1]
def zo292_2 : List zO := [zret 0]
def zt292 (b : Nat) : List zO := match b with
  | 0 => zo292_0
  | 1 => zo292_1
  | 2 => zo292_2
  | _ => []
def zo293_0 : List zO := [zldA 0, zcI (0), zput 14 66 0, zldA 0, zcI (2), zcI (0), zcL (0), zcI (8), zcal 290 5 1 14, zldA 0, zcI (2), zcI (3), zldI 1, zun 1, zcI (0), zcal 290 5 1 14, zldA 0, zcI (2), zcI (3), zldI 2, zun 1, zcI (0), zcal 290 5 1 14, zldA 0, zcI (2), zldA 0, zget 14 50 2, zcI (3), zald 0, zcal 291 3 1 14, zldA 0, zcI (2), zldA 0, zget 14 50 2, zcI (4), zald 0, zcal 291 3 1 14, zldA 0, zcI (2), zldA 0, zget 14 50 2, zcI (7), zald 0, zcal 291 3 1 14, zldA 0, zcI (2), zldA 0, zget 14 50 2, zcI (5), zald 0, zcal 291 3 1 14, zldA 0, zcal 280 1 1 14, zldA 0, zcI (2), zcI (2), zcL (0), zldA 0, zget 14 55 0, zcal 290 5 1 14, zcI (0), zstI 3, zfal 1]
def zo293_1 : List zO := [zldI 3, zldA 0, zget 14 55 0, zic 3 2, zldA 0, zcI (2), zcI (2), zcL (0), zcI (3), zcal 290 5 1 14, zldA 0, zcI (2), zcI (3), zldA 0, zget 14 56 2, zldI 3, zald 0, zun 1, zcI (0), zcal 290 5 1 14, zldA 0, zcI (2), zcI (3), zldA 0, zget 14 57 2, zldI 3, zald 1, zcI (0), zcal 290 5 1 14, zldA 0, zcI (2), zcI (3), zldA 0, zget 14 58 2, zldI 3, zald 1, zcI (0), zcal 290 5 1 14, zinc 3 (1), zgo 1]
def zo293_2 : List zO := [zldA 0, zget 14 41 2, zldA 0, zget 14 50 2, zcI (2), zald 0, zald 0, zstI 3, zldA 0, zcI (2), zcI (2), zcL (0), zldI 3, zcal 290 5 1 14, zcI (0), zstI 4, zfal 3]
def zo293_3 : List zO := [zldI 4, zldI 3, zic 3 4, zldA 0, zldA 0, zget 14 50 2, zcI (2), zald 0, zldI 4, zcal 266 3 1 14, zstI 5, zldA 0, zcI (2), zcI (0), zcL (0), zcI (2), zcal 290 5 1 14, zldA 0, zcI (2), zldI 5, zcI (1), zbI 0, zcal 291 3 1 14, zldA 0, zcI (2), zcI (3), zldA 0, zget 14 40 2, zldA 0, zldA 0, zldI 5, zcI (1), zcal 266 3 1 14, zcI (0), zcal 266 3 1 14, zcI (3), zbI 0, zald 1, zcI (0), zcal 290 5 1 14, zinc 4 (1), zgo 3]
def zo293_4 : List zO := [zldA 0, zget 14 62 2, zget 12 38 2, zcI (2), zldA 0, zget 14 66 0, zast 0, zldA 0, zcI (2), zcal 292 2 1 14, zret 0]
def zt293 (b : Nat) : List zO := match b with
  | 0 => zo293_0
  | 1 => zo293_1
  | 2 => zo293_2
  | 3 => zo293_3
  | 4 => zo293_4
  | _ => []
def zo294_0 : List zO := [zldA 0, zget 14 2 0, zstI 2, zldA 0, zget 14 47 0, zstI 3, zldA 0, zcal 295 1 1 14, zldA 0, zldA 0, zget 14 20 2, zldI 1, zald 0, zput 14 2 0, zcI (0), zstI 4, zfal 1]
def zo294_1 : List zO := [zldI 4, zldA 0, zget 14 2 0, zic 3 2, zldA 0, zget 14 1 2, zldI 4, zldA 0, zget 14 19 2, zcI (128), zldI 1, zbI 2, zldI 4, zbI 0, zald 3, zast 3, zinc 4 (1), zgo 1]
def zo294_2 : List zO := [zldA 0, zcal 265 1 1 14, zldA 0, zcI (0), zput 14 66 0, zldA 0, zcI (0), zcI (0), zcal 291 3 1 14, zldA 0, zget 14 62 2, zget 12 38 2, zcI (0), zldA 0, zget 14 66 0, zast 0, zldA 0, zcI (0), zcal 292 2 1 14, zldA 0, zldI 2, zput 14 2 0, zldA 0, zldI 3, zput 14 47 0, zldA 0, zcal 296 1 1 14, zret 0]
def zt294 (b : Nat) : List zO := match b with
  | 0 => zo294_0
  | 1 => zo294_1
  | 2 => zo294_2
  | _ => []
def zo295_0 : List zO := [zldA 0, zldA 0, zget 14 38 0, zput 14 74 0, zcI (0), zstI 1, zfal 1]
def zo295_1 : List zO := [zldI 1, zldA 0, zget 14 38 0, zic 3 2, zldA 0, zget 14 67 2, zldI 1, zldA 0, zget 14 39 2, zldI 1, zald 0, zast 0, zldA 0, zget 14 68 2, zldI 1, zldA 0, zget 14 40 2, zldI 1, zald 1, zast 1, zldA 0, zget 14 69 2, zldI 1, zldA 0, zget 14 41 2, zldI 1, zald 0, zast 0, zldA 0, zget 14 70 2, zldI 1, zldA 0, zget 14 42 2, zldI 1, zald 0, zast 0, zldA 0, zget 14 71 2, zldI 1, zldA 0, zget 14 43 2, zldI 1, zald 0, zast 0, zldA 0, zget 14 72 2, zldI 1, zldA 0, zget 14 44 2, zldI 1, zald 0, zast 0, zinc 1 (1), zgo 1]
def zo295_2 : List zO := [zcI (0), zstI 1, zfal 3]
def zo295_3 : List zO := [zldI 1, zldA 0, zget 14 2 0, zic 3 4, zldA 0, zget 14 73 2, zldI 1, zldA 0, zget 14 1 2, zldI 1, zald 3, zast 3, zinc 1 (1), zgo 3]
def zo295_4 : List zO := [zret 0]
def zt295 (b : Nat) : List zO := match b with
  | 0 => zo295_0
  | 1 => zo295_1
  | 2 => zo295_2
  | 3 => zo295_3
  | 4 => zo295_4
  | _ => []
def zo296_0 : List zO := [zldA 0, zldA 0, zget 14 74 0, zput 14 38 0, zcI (0), zstI 1, zfal 1]
def zo296_1 : List zO := [zldI 1, zldA 0, zget 14 38 0, zic 3 2, zldA 0, zget 14 39 2, zldI 1, zldA 0, zget 14 67 2, zldI 1, zald 0, zast 0, zldA 0, zget 14 40 2, zldI 1, zldA 0, zget 14 68 2, zldI 1, zald 1, zast 1, zldA 0, zget 14 41 2, zldI 1, zldA 0, zget 14 69 2, zldI 1, zald 0, zast 0, zldA 0, zget 14 42 2, zldI 1, zldA 0, zget 14 70 2, zldI 1, zald 0, zast 0, zldA 0, zget 14 43 2, zldI 1, zldA 0, zget 14 71 2, zldI 1, zald 0, zast 0, zldA 0, zget 14 44 2, zldI 1, zldA 0, zget 14 72 2, zldI 1, zald 0, zast 0, zinc 1 (1), zgo 1]
def zo296_2 : List zO := [zcI (0), zstI 1, zfal 3]
def zo296_3 : List zO := [zldI 1, zldA 0, zget 14 2 0, zic 3 4, zldA 0, zget 14 1 2, zldI 1, zldA 0, zget 14 73 2, zldI 1, zald 3, zast 3, zinc 1 (1), zgo 3]
def zo296_4 : List zO := [zret 0]
def zt296 (b : Nat) : List zO := match b with
  | 0 => zo296_0
  | 1 => zo296_1
  | 2 => zo296_2
  | 3 => zo296_3
  | 4 => zo296_4
  | _ => []
def zo297_0 : List zO := [zldI 4, zif 2 1, zldA 0, zldI 4, zcal 294 2 1 14, zfal 1]
def zo297_1 : List zO := [zldA 0, zcI (0), zput 14 66 0, zldA 0, zcI (1), zldI 5, zcal 291 3 1 14, zldA 0, zget 14 62 2, zget 12 38 2, zcI (1), zldA 0, zget 14 66 0, zast 0, zldA 0, zcI (1), zcal 292 2 1 14, zldA 0, zldI 2, zldI 3, zcal 293 3 1 14, zldA 0, zget 14 62 2, zcal 181 1 1 12, zldA 0, zldI 1, zcal 258 2 1 14, zldI 4, zif 2 2, zcI (0), zgo 3]
def zo297_2 : List zO := [zcI (1), zfal 3]
def zo297_3 : List zO := [zstI 6, zfal 4]
def zo297_4 : List zO := [zldI 6, zcI (3), zic 3 5, zldA 0, zget 14 62 2, zldI 6, zcal 185 2 1 12, zstI 7, zldA 0, zget 14 62 2, zcI (2), zcL (0), zcal 182 3 1 12, zstI 7, zinc 6 (1), zgo 4]
def zo297_5 : List zO := [zldA 0, zldA 0, zget 14 62 2, zcI (20000), zcI (3000), zcal 225 3 1 12, zput 14 33 0, zldA 0, zldA 0, zget 14 62 2, zget 12 45 0, zput 14 34 0, zldA 0, zldA 0, zget 14 62 2, zget 12 46 0, zput 14 35 0, zldA 0, zldA 0, zget 14 62 2, zcal 226 1 1 12, zput 14 36 0, zldA 0, zdup, zget 14 32 0, zcI (1), zbI 0, zput 14 32 0, zldA 0, zget 14 7 2, zldI 1, zdup2, zald 0, zcI (1), zbI 0, zast 0, zldA 0, zdup, zget 14 29 1, zldA 0, zget 14 34 0, zun 1, zbL 0, zput 14 29 1, zldA 0, zget 14 62 2, zcal 227 1 1 12, zret 2]
def zt297 (b : Nat) : List zO := match b with
  | 0 => zo297_0
  | 1 => zo297_1
  | 2 => zo297_2
  | 3 => zo297_3
  | 4 => zo297_4
  | 5 => zo297_5
  | _ => []
def zo298_0 : List zO := [zcI (1), zstI 1, zcI (0), zstI 2, zfal 1]
def zo298_1 : List zO := [zldI 1, zif 0 3, zldI 2, zldA 0, zget 14 52 0, zic 3 3, zldA 0, zget 14 51 2, zldI 2, zald 0, zstI 3, zldA 0, zget 14 14 2, zldI 3, zald 0, zcI (255), zic 5 2, zldA 0, zldA 0, zget 14 14 2, zldI 3, zald 0, zcI (256), zbI 1, zcI (0), zldI 3, zldI 3, zldA 0, zldA 0, zldA 0, zget 14 50 2, zcI (0), zald 0, zldI 2, zcal 266 3 1 14, zcI (1), zcal 266 3 1 14, zcal 297 6 1 14, zstI 1, zfal 2]
def zo298_2 : List zO := [zinc 2 (1), zgo 1]
def zo298_3 : List zO := [zcI (0), zstI 2, zfal 4]
def zo298_4 : List zO := [zldI 1, zif 0 5, zldI 2, zldA 0, zget 14 41 2, zldA 0, zget 14 50 2, zcI (6), zald 0, zald 0, zic 3 5, zldA 0, zldA 0, zget 14 50 2, zcI (6), zald 0, zcI (2), zldI 2, zbI 2, zcal 266 3 1 14, zstI 3, zldA 0, zldA 0, zget 14 40 2, zldI 3, zald 1, zun 2, zcI (1), zbI 1, zcI (1), zldA 0, zget 14 40 2, zldI 3, zald 1, zun 2, zcI (-1), zldI 3, zcI (1), zbI 0, zcal 297 6 1 14, zstI 1, zinc 2 (1), zgo 4]
def zo298_5 : List zO := [zldI 1, zret 2]
def zt298 (b : Nat) : List zO := match b with
  | 0 => zo298_0
  | 1 => zo298_1
  | 2 => zo298_2
  | 3 => zo298_3
  | 4 => zo298_4
  | 5 => zo298_5
  | _ => []
def zo299_0 : List zO := [zldA 0, zldA 0, zget 14 40 2, zldI 1, zcI (1), zbI 0, zald 1, zun 2, zif 1 1, zldA 0, zget 14 40 2, zldI 1, zcI (2), zbI 0, zald 1, zun 2, zgo 2]
def zo299_1 : List zO := [zcI (256), zldA 0, zget 14 40 2, zldI 1, zcI (2), zbI 0, zald 1, zun 2, zbI 0, zfal 2]
def zo299_2 : List zO := [zcal 253 2 1 14, zstI 2, zldA 0, zldI 1, zcI (1), zcal 266 3 1 14, zstI 3, zcI (0), zstI 4, zfal 3]
def zo299_3 : List zO := [zldI 4, zldA 0, zget 14 41 2, zldI 3, zald 0, zic 3 4, zldA 0, zldI 3, zldI 4, zcal 266 3 1 14, zstI 5, zldA 0, zldI 2, zldA 0, zget 14 40 2, zldI 5, zcI (1), zbI 0, zald 1, zun 2, zldA 0, zget 14 40 2, zldI 5, zcI (2), zbI 0, zald 1, zldA 0, zget 14 40 2, zldI 5, zcI (3), zbI 0, zald 1, zcal 254 5 1 14, zinc 4 (1), zgo 3]
def zo299_4 : List zO := [zldA 0, zldI 1, zcI (2), zcal 266 3 1 14, zstI 4, zldA 0, zget 14 43 2, zldI 4, zald 0, zstI 5, zfal 5]
def zo299_5 : List zO := [zldI 5, zldA 0, zldI 4, zcal 270 2 1 14, zic 3 6, zldA 0, zget 14 19 2, zcI (128), zldI 2, zbI 2, zldA 0, zget 14 20 2, zldI 2, zald 0, zbI 0, zldA 0, zget 14 1 2, zldI 5, zald 3, zast 3, zldA 0, zget 14 20 2, zldI 2, zdup2, zald 0, zcI (1), zbI 0, zast 0, zinc 5 (1), zgo 5]
def zo299_6 : List zO := [zret 0]
def zt299 (b : Nat) : List zO := match b with
  | 0 => zo299_0
  | 1 => zo299_1
  | 2 => zo299_2
  | 3 => zo299_3
  | 4 => zo299_4
  | 5 => zo299_5
  | 6 => zo299_6
  | _ => []
def zo300_0 : List zO := [zcI (0), zstI 1, zfal 1]
def zo300_1 : List zO := [zldI 1, zldA 0, zget 14 52 0, zic 3 2, zldA 0, zget 14 22 2, zldA 0, zget 14 51 2, zldI 1, zald 0, zldA 0, zget 14 23 0, zast 0, zinc 1 (1), zgo 1]
def zo300_2 : List zO := [zcI (0), zstI 1, zfal 3]
def zo300_3 : List zO := [zldI 1, zldA 0, zget 14 41 2, zldA 0, zget 14 50 2, zcI (2), zald 0, zald 0, zic 3 4, zldA 0, zldA 0, zldA 0, zget 14 50 2, zcI (2), zald 0, zldI 1, zcal 266 3 1 14, zcal 299 2 1 14, zinc 1 (1), zgo 3]
def zo300_4 : List zO := [zldA 0, zget 14 25 2, zldA 0, zget 14 23 0, zdup2, zald 1, zldA 0, zget 14 40 2, zldA 0, zget 14 50 2, zcI (3), zald 0, zald 1, zbL 0, zast 1, zldA 0, zget 14 26 2, zldA 0, zget 14 23 0, zdup2, zald 0, zcI (1), zbI 0, zast 0, zret 0]
def zt300 (b : Nat) : List zO := match b with
  | 0 => zo300_0
  | 1 => zo300_1
  | 2 => zo300_2
  | 3 => zo300_3
  | 4 => zo300_4
  | _ => []
def zo301_0 : List zO := [zcI (0), zstI 1, zfal 1]
def zo301_1 : List zO := [zldI 1, zldA 0, zget 14 54 0, zic 3 2, zldA 0, zget 14 22 2, zldA 0, zget 14 53 2, zldI 1, zald 0, zldA 0, zget 14 23 0, zast 0, zldA 0, zget 14 25 2, zldA 0, zget 14 23 0, zdup2, zald 1, zldA 0, zldA 0, zget 14 53 2, zldI 1, zald 0, zcI (0), zcL (0), zcal 250 4 1 14, zbL 0, zast 1, zinc 1 (1), zgo 1]
def zo301_2 : List zO := [zldA 0, zget 14 27 2, zldA 0, zget 14 23 0, zdup2, zald 0, zcI (1), zbI 0, zast 0, zret 0]
def zt301 (b : Nat) : List zO := match b with
  | 0 => zo301_0
  | 1 => zo301_1
  | 2 => zo301_2
  | _ => []
def zo302_0 : List zO := [zldA 0, zcI (0), zput 14 63 0, zldA 0, zcI (1), zput 14 13 3, zldA 0, zdup, zget 14 28 0, zcI (1), zbI 0, zput 14 28 0, zldA 0, zcI (0), zput 14 32 0, zldA 0, zcI (-1), zput 14 33 0, zldA 0, zcI (-1), zput 14 34 0, zldA 0, zcI (-1), zput 14 35 0, zldA 0, zcI (-1), zput 14 36 0, zldA 0, zldA 0, zget 14 2 0, zput 14 37 0, zldA 0, zcal 265 1 1 14, zldA 0, zget 14 48 0, zif 5 1, zldA 0, zget 14 31 0, zgo 2]
def zo302_1 : List zO := [zcI (-1), zfal 2]
def zo302_2 : List zO := [zstI 1, zldA 0, zldA 0, zget 14 48 0, zif 5 3, zldA 0, zget 14 48 0, zgo 4]
def zo302_3 : List zO := [zldA 0, zcal 289 1 1 14, zfal 4]
def zo302_4 : List zO := [zput 14 30 0, zldA 0, zget 14 30 0, zif 1 6, zldA 0, zcal 298 1 1 14, zif 0 5, zldA 0, zcal 300 1 1 14, zgo 6]
def zo302_5 : List zO := [zldA 0, zcI (20), zput 14 30 0, zldA 0, zcal 301 1 1 14, zfal 6]
def zo302_6 : List zO := [zldA 0, zldI 1, zput 14 31 0, zldA 0, zcI (0), zput 14 2 0, zldA 0, zget 14 30 0, zret 1]
def zt302 (b : Nat) : List zO := match b with
  | 0 => zo302_0
  | 1 => zo302_1
  | 2 => zo302_2
  | 3 => zo302_3
  | 4 => zo302_4
  | 5 => zo302_5
  | 6 => zo302_6
  | _ => []
def zo303_0 : List zO := [zldA 0, zcI (0), zput 14 63 0, zldA 0, zcI (1), zput 14 13 3, zldA 0, zdup, zget 14 23 0, zcI (1), zbI 0, zput 14 23 0, zldA 0, zget 14 25 2, zldA 0, zget 14 23 0, zcL (0), zast 1, zldA 0, zget 14 26 2, zldA 0, zget 14 23 0, zcI (0), zast 0, zldA 0, zget 14 27 2, zldA 0, zget 14 23 0, zcI (0), zast 0, zldA 0, zldA 0, zget 14 24 0, zldA 0, zget 14 0 0, zic 3 1, zldA 0, zget 14 24 0, zcI (1), zbI 0, zgo 2]
def zo303_1 : List zO := [zldA 0, zget 14 0 0, zfal 2]
def zo303_2 : List zO := [zput 14 24 0, zldA 0, zget 14 23 0, zret 1]
def zt303 (b : Nat) : List zO := match b with
  | 0 => zo303_0
  | 1 => zo303_1
  | 2 => zo303_2
  | _ => []
def zo304_0 : List zO := [zldA 0, zcI (0), zput 14 63 0, zldA 0, zcI (1), zput 14 13 3, zldI 1, zif 2 1, zldI 1, zldA 0, zget 14 24 0, zic 5 2, zfal 1]
def zo304_1 : List zO := [zcI (-1), zret 1]
def zo304_2 : List zO := [zldA 0, zget 14 23 0, zldI 1, zbI 1, zstI 2, zfal 3]
def zo304_3 : List zO := [zldA 0, zget 14 11 0, zldA 0, zget 14 12 0, zic 5 4, zldA 0, zget 14 21 2, zldA 0, zget 14 11 0, zcI (1), zbI 1, zald 0, zldI 2, zic 2 4, zldA 0, zdup, zget 14 11 0, zcI (1), zbI 1, zput 14 11 0, zgo 3]
def zo304_4 : List zO := [zcI (0), zstI 3, zfal 5]
def zo304_5 : List zO := [zldI 3, zldA 0, zget 14 11 0, zic 3 8, zldA 0, zget 14 22 2, zldI 3, zldA 0, zget 14 22 2, zldI 3, zald 0, zldI 2, zic 2 6, zcI (-1), zgo 7]
def zo304_6 : List zO := [zldA 0, zget 14 22 2, zldI 3, zald 0, zfal 7]
def zo304_7 : List zO := [zast 0, zinc 3 (1), zgo 5]
def zo304_8 : List zO := [zldI 2, zstI 3, zfal 9]
def zo304_9 : List zO := [zldI 3, zldA 0, zget 14 23 0, zic 4 10, zldA 0, zget 14 25 2, zldI 3, zcL (0), zast 1, zldA 0, zget 14 26 2, zldI 3, zcI (0), zast 0, zldA 0, zget 14 27 2, zldI 3, zcI (0), zast 0, zinc 3 (1), zgo 9]
def zo304_10 : List zO := [zldA 0, zldI 2, zput 14 23 0, zldA 0, zdup, zget 14 24 0, zldI 1, zbI 1, zput 14 24 0, zldA 0, zget 14 23 0, zret 1]
def zt304 (b : Nat) : List zO := match b with
  | 0 => zo304_0
  | 1 => zo304_1
  | 2 => zo304_2
  | 3 => zo304_3
  | 4 => zo304_4
  | 5 => zo304_5
  | 6 => zo304_6
  | 7 => zo304_7
  | 8 => zo304_8
  | 9 => zo304_9
  | 10 => zo304_10
  | _ => []
def zo305_0 : List zO := [zldA 0, zcI (0), zput 14 63 0, zldI 1, zif 2 1, zldI 1, zldA 0, zget 14 11 0, zic 2 2, zfal 1]
def zo305_1 : List zO := [zcI (-1), zret 1]
def zo305_2 : List zO := [zldI 2, ztsw 11 (0) [3, 4, 7, 8, 9, 10]]
def zo305_3 : List zO := [zldA 0, zget 14 14 2, zldI 1, zald 0, zret 1]
def zo305_4 : List zO := [zldA 0, zldI 1, zcal 249 2 1 14, zif 0 5, zcI (1), zgo 6]
def zo305_5 : List zO := [zcI (0), zfal 6]
def zo305_6 : List zO := [zret 1]
def zo305_7 : List zO := [zldA 0, zget 14 21 2, zldI 1, zald 0, zret 1]
def zo305_8 : List zO := [zldA 0, zget 14 22 2, zldI 1, zald 0, zret 1]
def zo305_9 : List zO := [zldA 0, zget 14 15 2, zldI 1, zald 0, zret 1]
def zo305_10 : List zO := [zldA 0, zget 14 20 2, zldI 1, zald 0, zret 1]
def zo305_11 : List zO := [zcI (-1), zret 1]
def zt305 (b : Nat) : List zO := match b with
  | 0 => zo305_0
  | 1 => zo305_1
  | 2 => zo305_2
  | 3 => zo305_3
  | 4 => zo305_4
  | 5 => zo305_5
  | 6 => zo305_6
  | 7 => zo305_7
  | 8 => zo305_8
  | 9 => zo305_9
  | 10 => zo305_10
  | 11 => zo305_11
  | _ => []
def zo306_0 : List zO := [zldA 0, zldI 1, zif 2 1, zldI 1, zldA 0, zget 14 11 0, zic 2 2, zfal 1]
def zo306_1 : List zO := [zcI (1), zgo 5]
def zo306_2 : List zO := [zldI 2, zif 2 3, zldI 2, zldA 0, zget 14 15 2, zldI 1, zald 0, zic 3 3, zldI 3, zif 2 3, zldI 3, zcI (2), zic 5 4, zfal 3]
def zo306_3 : List zO := [zcI (1), zgo 5]
def zo306_4 : List zO := [zcI (0), zfal 5]
def zo306_5 : List zO := [zput 14 63 0, zldA 0, zget 14 63 0, zif 5 6, zcL (0), zgo 9]
def zo306_6 : List zO := [zldI 3, zif 1 7, zldA 0, zget 14 16 2, zcI (8), zldI 1, zbI 2, zldI 2, zbI 0, zald 0, zun 1, zgo 9]
def zo306_7 : List zO := [zldI 3, zcI (1), zic 1 8, zldA 0, zget 14 17 2, zcI (8), zldI 1, zbI 2, zldI 2, zbI 0, zald 1, zgo 9]
def zo306_8 : List zO := [zldA 0, zget 14 18 2, zcI (8), zldI 1, zbI 2, zldI 2, zbI 0, zald 1, zfal 9]
def zo306_9 : List zO := [zret 3]
def zt306 (b : Nat) : List zO := match b with
  | 0 => zo306_0
  | 1 => zo306_1
  | 2 => zo306_2
  | 3 => zo306_3
  | 4 => zo306_4
  | 5 => zo306_5
  | 6 => zo306_6
  | 7 => zo306_7
  | 8 => zo306_8
  | 9 => zo306_9
  | _ => []
def zo307_0 : List zO := [zldA 0, zcI (0), zput 14 63 0, zldI 1, zif 2 3, zldI 1, zldA 0, zget 14 11 0, zic 3 3, zldI 2, zif 2 3, zldI 2, zldA 0, zget 14 20 2, zldI 1, zif 2 1, zldI 1, zldA 0, zget 14 11 0, zic 3 1, zldI 1, zgo 2]
def zo307_1 : List zO := [zcI (0), zfal 2]
def zo307_2 : List zO := [zald 0, zic 2 4, zfal 3]
def zo307_3 : List zO := [zcI (-1), zgo 5]
def zo307_4 : List zO := [zldA 0, zget 14 19 2, zcI (128), zldI 1, zbI 2, zldI 2, zbI 0, zald 3, zcI (255), zbI 3, zfal 5]
def zo307_5 : List zO := [zret 1]
def zt307 (b : Nat) : List zO := match b with
  | 0 => zo307_0
  | 1 => zo307_1
  | 2 => zo307_2
  | 3 => zo307_3
  | 4 => zo307_4
  | 5 => zo307_5
  | _ => []
def zo308_0 : List zO := [zldA 0, zcI (0), zput 14 63 0, zldA 0, zldI 1, zldL 2, zcal 252 3 1 14, zret 3]
def zt308 (b : Nat) : List zO := match b with
  | 0 => zo308_0
  | _ => []
def zo309_0 : List zO := [zldA 0, zcI (0), zput 14 63 0, zldI 2, zstI 3, zcI (0), zstI 4, zfal 1]
def zo309_1 : List zO := [zldI 4, zldA 0, zget 14 11 0, zic 3 4, zldI 2, zif 2 4, zldA 0, zldI 4, zcal 249 2 1 14, zif 0 3, zldA 0, zget 14 14 2, zldI 4, zald 0, zldI 1, zic 1 3, zldI 3, zif 1 2, zldI 4, zret 1]
def zo309_2 : List zO := [zinc 3 (-1), zfal 3]
def zo309_3 : List zO := [zinc 4 (1), zgo 1]
def zo309_4 : List zO := [zcI (-1), zret 1]
def zt309 (b : Nat) : List zO := match b with
  | 0 => zo309_0
  | 1 => zo309_1
  | 2 => zo309_2
  | 3 => zo309_3
  | 4 => zo309_4
  | _ => []
def zo310_0 : List zO := [zldA 0, zcI (0), zput 14 63 0, zldA 0, zget 14 30 0, zif 3 1, zcI (-1), zret 1]
def zo310_1 : List zO := [zldI 1, ztsw 10 (0) [2, 3, 4, 5, 6, 7, 8, 9]]
def zo310_2 : List zO := [zldA 0, zget 14 30 0, zret 1]
def zo310_3 : List zO := [zldA 0, zget 14 31 0, zret 1]
def zo310_4 : List zO := [zldA 0, zget 14 32 0, zret 1]
def zo310_5 : List zO := [zldA 0, zget 14 33 0, zret 1]
def zo310_6 : List zO := [zldA 0, zget 14 34 0, zret 1]
def zo310_7 : List zO := [zldA 0, zget 14 35 0, zret 1]
def zo310_8 : List zO := [zldA 0, zget 14 36 0, zret 1]
def zo310_9 : List zO := [zldA 0, zget 14 37 0, zret 1]
def zo310_10 : List zO := [zcI (-1), zret 1]
def zt310 (b : Nat) : List zO := match b with
  | 0 => zo310_0
  | 1 => zo310_1
  | 2 => zo310_2
  | 3 => zo310_3
  | 4 => zo310_4
  | 5 => zo310_5
  | 6 => zo310_6
  | 7 => zo310_7
  | 8 => zo310_8
  | 9 => zo310_9
  | 10 => zo310_10
  | _ => []
def zo311_0 : List zO := [zldA 0, zcI (0), zput 14 63 0, zldI 1, zif 2 1, zldI 1, zldA 0, zget 14 3 0, zic 2 2, zfal 1]
def zo311_1 : List zO := [zcI (-1), zret 1]
def zo311_2 : List zO := [zldI 2, zif 1 3, zldA 0, zget 14 4 2, zldI 1, zald 0, zgo 7]
def zo311_3 : List zO := [zldI 2, zcI (1), zic 1 4, zldA 0, zget 14 5 2, zldI 1, zald 0, zgo 7]
def zo311_4 : List zO := [zldI 2, zcI (2), zic 1 5, zldA 0, zget 14 6 2, zldI 1, zald 0, zgo 7]
def zo311_5 : List zO := [zldI 2, zcI (3), zic 1 6, zldA 0, zget 14 7 2, zldI 1, zald 0, zgo 7]
def zo311_6 : List zO := [zcI (-1), zfal 7]
def zo311_7 : List zO := [zret 1]
def zt311 (b : Nat) : List zO := match b with
  | 0 => zo311_0
  | 1 => zo311_1
  | 2 => zo311_2
  | 3 => zo311_3
  | 4 => zo311_4
  | 5 => zo311_5
  | 6 => zo311_6
  | 7 => zo311_7
  | _ => []
def zo312_0 : List zO := [zldA 0, zcI (0), zput 14 63 0, zcL (0), zstL 2, zcI (0), zstI 4, zfal 1]
def zo312_1 : List zO := [zldI 4, zldA 0, zget 14 11 0, zic 3 4, zldL 2, zldA 0, zldI 4, zcal 249 2 1 14, zif 0 2, zcL (1), zgo 3]
def zo312_2 : List zO := [zcL (0), zfal 3]
def zo312_3 : List zO := [zbL 0, zstL 2, zinc 4 (1), zgo 1]
def zo312_4 : List zO := [zcL (0), zstL 4, zcL (0), zstL 6, zcI (0), zstI 8, zfal 5]
def zo312_5 : List zO := [zldI 8, zldA 0, zget 14 23 0, zic 4 6, zldL 4, zldA 0, zget 14 26 2, zldI 8, zald 0, zun 1, zbL 0, zstL 4, zldL 6, zldA 0, zget 14 27 2, zldI 8, zald 0, zun 1, zbL 0, zstL 6, zinc 8 (1), zgo 5]
def zo312_6 : List zO := [zldI 1, ztsw 18 (0) [7, 8, 9, 10, 11, 12, 13, 14, 15, 16, 17]]
def zo312_7 : List zO := [zldA 0, zcal 251 1 1 14, zret 3]
def zo312_8 : List zO := [zldA 0, zget 14 23 0, zun 1, zret 3]
def zo312_9 : List zO := [zldA 0, zget 14 11 0, zun 1, zret 3]
def zo312_10 : List zO := [zldL 2, zret 3]
def zo312_11 : List zO := [zldA 0, zget 14 24 0, zun 1, zret 3]
def zo312_12 : List zO := [zldA 0, zget 14 3 0, zun 1, zret 3]
def zo312_13 : List zO := [zldA 0, zget 14 2 0, zun 1, zret 3]
def zo312_14 : List zO := [zldL 4, zret 3]
def zo312_15 : List zO := [zldL 6, zret 3]
def zo312_16 : List zO := [zldA 0, zget 14 28 0, zun 1, zret 3]
def zo312_17 : List zO := [zldA 0, zget 14 29 1, zret 3]
def zo312_18 : List zO := [zcL (-1), zret 3]
def zt312 (b : Nat) : List zO := match b with
  | 0 => zo312_0
  | 1 => zo312_1
  | 2 => zo312_2
  | 3 => zo312_3
  | 4 => zo312_4
  | 5 => zo312_5
  | 6 => zo312_6
  | 7 => zo312_7
  | 8 => zo312_8
  | 9 => zo312_9
  | 10 => zo312_10
  | 11 => zo312_11
  | 12 => zo312_12
  | 13 => zo312_13
  | 14 => zo312_14
  | 15 => zo312_15
  | 16 => zo312_16
  | 17 => zo312_17
  | 18 => zo312_18
  | _ => []
def zo313_0 : List zO := [zldI 1, zldA 0, zlen, zic 3 1, zldA 0, zldI 1, zald 0, zgo 2]
def zo313_1 : List zO := [zcI (0), zfal 2]
def zo313_2 : List zO := [zret 1]
def zt313 (b : Nat) : List zO := match b with
  | 0 => zo313_0
  | 1 => zo313_1
  | 2 => zo313_2
  | _ => []
def zo314_0 : List zO := [zldL 0, zldL 2, zbL 6, zstL 4, zldL 0, zldL 2, zbL 5, zcL (0), zcmp, zif 3 1, zldL 4, zldL 2, zbL 2, zldL 0, zcmp, zif 0 1, zldL 4, zcL (1), zbL 1, zret 3]
def zo314_1 : List zO := [zldL 4, zret 3]
def zt314 (b : Nat) : List zO := match b with
  | 0 => zo314_0
  | 1 => zo314_1
  | _ => []
def zo315_0 : List zO := [zldI 0, zldI 1, zbI 8, zstI 2, zldI 0, zldI 1, zbI 4, zif 3 1, zldI 2, zif 0 1, zldI 2, zldI 1, zbI 0, zret 1]
def zo315_1 : List zO := [zldI 2, zret 1]
def zt315 (b : Nat) : List zO := match b with
  | 0 => zo315_0
  | 1 => zo315_1
  | _ => []
def zo316_0 : List zO := [zldL 0, zldL 2, zbL 7, zstL 4, zldL 0, zldL 2, zbL 5, zcL (0), zcmp, zif 3 1, zldL 4, zcL (0), zcmp, zif 0 1, zldL 4, zldL 2, zbL 0, zret 3]
def zo316_1 : List zO := [zldL 4, zret 3]
def zt316 (b : Nat) : List zO := match b with
  | 0 => zo316_0
  | 1 => zo316_1
  | _ => []
def zo317_0 : List zO := [zldI 0, zldI 1, zic 2 1, zldI 0, zgo 2]
def zo317_1 : List zO := [zldI 1, zfal 2]
def zo317_2 : List zO := [zret 1]
def zt317 (b : Nat) : List zO := match b with
  | 0 => zo317_0
  | 1 => zo317_1
  | 2 => zo317_2
  | _ => []
def zo318_0 : List zO := [zldL 0, zldL 2, zcmp, zif 2 1, zldL 0, zgo 2]
def zo318_1 : List zO := [zldL 2, zfal 2]
def zo318_2 : List zO := [zret 3]
def zt318 (b : Nat) : List zO := match b with
  | 0 => zo318_0
  | 1 => zo318_1
  | 2 => zo318_2
  | _ => []
def zo319_0 : List zO := [zldI 0, zldI 1, zic 4 1, zldI 0, zgo 2]
def zo319_1 : List zO := [zldI 1, zfal 2]
def zo319_2 : List zO := [zret 1]
def zt319 (b : Nat) : List zO := match b with
  | 0 => zo319_0
  | 1 => zo319_1
  | 2 => zo319_2
  | _ => []
def zo320_0 : List zO := [zldL 0, zldL 2, zcmp, zif 4 1, zldL 0, zgo 2]
def zo320_1 : List zO := [zldL 2, zfal 2]
def zo320_2 : List zO := [zret 3]
def zt320 (b : Nat) : List zO := match b with
  | 0 => zo320_0
  | 1 => zo320_1
  | 2 => zo320_2
  | _ => []
def zo321_0 : List zO := [zcI (0), zstI 2, zldA 0, zlen, zstI 3, zfal 1]
def zo321_1 : List zO := [zldI 2, zldI 3, zic 3 2, zldA 0, zldI 2, zldI 1, zast 0, zinc 2 (1), zgo 1]
def zo321_2 : List zO := [zret 0]
def zt321 (b : Nat) : List zO := match b with
  | 0 => zo321_0
  | 1 => zo321_1
  | 2 => zo321_2
  | _ => []
def zo322_0 : List zO := [zldI 1, zldA 0, zlen, zic 1 1, zldA 0, zcln 15, zcst 15, zret 4]
def zo322_1 : List zO := [zldI 1, znewa 15, zstA 2, zldA 0, zcI (0), zldA 2, zcI (0), zldA 0, zlen, zldI 1, zcal 319 2 0 16, zacp, zldA 2, zret 4]
def zt322 (b : Nat) : List zO := match b with
  | 0 => zo322_0
  | 1 => zo322_1
  | _ => []
def zo323_0 : List zO := [zldI 1, zldA 0, zlen, zic 1 1, zldA 0, zcln 16, zcst 16, zret 4]
def zo323_1 : List zO := [zldI 1, znewa 16, zstA 2, zldA 0, zcI (0), zldA 2, zcI (0), zldA 0, zlen, zldI 1, zcal 319 2 0 16, zacp, zldA 2, zret 4]
def zt323 (b : Nat) : List zO := match b with
  | 0 => zo323_0
  | 1 => zo323_1
  | _ => []
def zo324_0 : List zO := [zldI 1, zldA 0, zlen, zic 1 1, zldA 0, zcln 17, zcst 17, zret 4]
def zo324_1 : List zO := [zldI 1, znewa 17, zstA 2, zldA 0, zcI (0), zldA 2, zcI (0), zldA 0, zlen, zldI 1, zcal 319 2 0 16, zacp, zldA 2, zret 4]
def zt324 (b : Nat) : List zO := match b with
  | 0 => zo324_0
  | 1 => zo324_1
  | _ => []
def zo325_0 : List zO := [zldI 1, zldI 0, zic 3 1, zbad, zdup, zbad, zdup, zbad, zldI 0, zbad, zbad, zbad, zldI 1, zbad, zbad, zbad, zbad]
def zo325_1 : List zO := [zret 0]
def zt325 (b : Nat) : List zO := match b with
  | 0 => zo325_0
  | 1 => zo325_1
  | _ => []
def zo326_0 : List zO := [zldI 1, zif 1 1, zldI 2, zldA 0, zlen, zic 0 2, zfal 1]
def zo326_1 : List zO := [zldA 0, zldI 1, zldI 2, zcal 327 3 0 17, zret 4]
def zo326_2 : List zO := [zldA 0, zcln 15, zcst 15, zret 4]
def zt326 (b : Nat) : List zO := match b with
  | 0 => zo326_0
  | 1 => zo326_1
  | 2 => zo326_2
  | _ => []
def zo327_0 : List zO := [zldI 1, zldI 2, zcal 325 2 0 17, zldI 2, zldI 1, zbI 1, zstI 3, zldI 3, znewa 15, zstA 4, zldA 0, zldI 1, zldA 4, zcI (0), zldA 0, zlen, zldI 1, zbI 1, zldI 3, zcal 319 2 0 16, zacp, zldA 4, zret 4]
def zt327 (b : Nat) : List zO := match b with
  | 0 => zo327_0
  | _ => []
def zo328_0 : List zO := [znew 11 13, zdup, zldA 0, zcI (0), zcal 313 2 0 15, zcal 156 2 2 11, zstA 1, znew 14 75, zdup, zldA 0, zcI (0), zcal 313 2 0 15, zcal 245 2 2 14, zstA 2, zcI (1), znewa 17, zstA 3, zcI (1), zstI 4, zfal 1]
def zo328_1 : List zO := [zldI 4, zldA 0, zlen, zcI (4), zbI 1, zic 4 20, zldA 0, zldI 4, zald 0, zcI (15), zbI 3, ztsw 19 (0) [2, 3, 4, 5, 6, 7, 8, 9, 10, 13, 14, 15, 16, 17, 18]]
def zo328_2 : List zO := [zldA 1, zldA 0, zldI 4, zcI (1), zbI 0, zald 0, zun 1, zcI (32), zsL 0, zldA 0, zldI 4, zcI (2), zbI 0, zald 0, zun 1, zcL (4294967295), zbL 3, zbL 4, zldA 0, zldI 4, zcI (3), zbI 0, zald 0, zcal 157 3 1 11, zldA 2, zldA 0, zldI 4, zcI (1), zbI 0, zald 0, zun 1, zcI (32), zsL 0, zldA 0, zldI 4, zcI (2), zbI 0, zald 0, zun 1, zcL (4294967295), zbL 3, zbL 4, zldA 0, zldI 4, zcI (3), zbI 0, zald 0, zcal 247 3 1 14, zic 0 19, zcI (0), zret 2]
def zo328_3 : List zO := [zldA 1, zcal 158 1 1 11, zldA 2, zcal 248 1 1 14, zgo 19]
def zo328_4 : List zO := [zldA 1, zldA 0, zldI 4, zcI (1), zbI 0, zald 0, zldA 0, zldI 4, zcI (2), zbI 0, zald 0, zun 1, zcI (32), zsL 0, zldA 0, zldI 4, zcI (3), zbI 0, zald 0, zun 1, zcL (4294967295), zbL 3, zbL 4, zcal 159 3 1 11, zldA 2, zldA 0, zldI 4, zcI (1), zbI 0, zald 0, zldA 0, zldI 4, zcI (2), zbI 0, zald 0, zun 1, zcI (32), zsL 0, zldA 0, zldI 4, zcI (3), zbI 0, zald 0, zun 1, zcL (4294967295), zbL 3, zbL 4, zcal 255 3 1 14, zic 0 19, zcI (0), zret 2]
def zo328_5 : List zO := [zldA 1, zcal 160 1 1 11, zldA 2, zcal 256 1 1 14, zic 0 19, zcI (0), zret 2]
def zo328_6 : List zO := [zldA 1, zcal 161 1 1 11, zldA 2, zcal 302 1 1 14, zic 0 19, zcI (0), zret 2]
def zo328_7 : List zO := [zldA 1, zcal 162 1 1 11, zldA 2, zcal 303 1 1 14, zic 0 19, zcI (0), zret 2]
def zo328_8 : List zO := [zldA 1, zldA 0, zldI 4, zcI (1), zbI 0, zald 0, zcal 163 2 1 11, zldA 2, zldA 0, zldI 4, zcI (1), zbI 0, zald 0, zcal 304 2 1 14, zic 0 19, zcI (0), zret 2]
def zo328_9 : List zO := [zldA 1, zldA 0, zldI 4, zcI (1), zbI 0, zald 0, zldA 0, zldI 4, zcI (2), zbI 0, zald 0, zcal 164 3 1 11, zldA 2, zldA 0, zldI 4, zcI (1), zbI 0, zald 0, zldA 0, zldI 4, zcI (2), zbI 0, zald 0, zcal 305 3 1 14, zic 0 19, zcI (0), zret 2]
def zo328_10 : List zO := [zldA 1, zldA 0, zldI 4, zcI (1), zbI 0, zald 0, zldA 0, zldI 4, zcI (2), zbI 0, zald 0, zldA 0, zldI 4, zcI (3), zbI 0, zald 0, zldA 3, zlco 165 41, zstI 5, zldA 2, zldA 0, zldI 4, zcI (1), zbI 0, zald 0, zldA 0, zldI 4, zcI (2), zbI 0, zald 0, zldA 0, zldI 4, zcI (3), zbI 0, zald 0, zcal 306 4 1 14, zstL 6, zldA 2, zcal 246 1 1 14, zldI 5, zic 0 11, zcI (0), zret 2]
def zo328_11 : List zO := [zldI 5, zif 1 12, zldA 3, zcI (0), zald 1, zldL 6, zcmp, zif 0 12, zcI (0), zret 2]
def zo328_12 : List zO := [zgo 19]
def zo328_13 : List zO := [zldA 1, zldA 0, zldI 4, zcI (1), zbI 0, zald 0, zldA 0, zldI 4, zcI (2), zbI 0, zald 0, zcal 166 3 1 11, zldA 2, zldA 0, zldI 4, zcI (1), zbI 0, zald 0, zldA 0, zldI 4, zcI (2), zbI 0, zald 0, zcal 307 3 1 14, zic 0 19, zcI (0), zret 2]
def zo328_14 : List zO := [zldA 1, zldA 0, zldI 4, zcI (1), zbI 0, zald 0, zldA 0, zldI 4, zcI (2), zbI 0, zald 0, zun 1, zcI (32), zsL 0, zldA 0, zldI 4, zcI (3), zbI 0, zald 0, zun 1, zcL (4294967295), zbL 3, zbL 4, zcal 167 3 1 11, zldA 2, zldA 0, zldI 4, zcI (1), zbI 0, zald 0, zldA 0, zldI 4, zcI (2), zbI 0, zald 0, zun 1, zcI (32), zsL 0, zldA 0, zldI 4, zcI (3), zbI 0, zald 0, zun 1, zcL (4294967295), zbL 3, zbL 4, zcal 308 3 1 14, zcmp, zif 0 19, zcI (0), zret 2]
def zo328_15 : List zO := [zldA 1, zldA 0, zldI 4, zcI (1), zbI 0, zald 0, zldA 0, zldI 4, zcI (2), zbI 0, zald 0, zcal 168 3 1 11, zldA 2, zldA 0, zldI 4, zcI (1), zbI 0, zald 0, zldA 0, zldI 4, zcI (2), zbI 0, zald 0, zcal 309 3 1 14, zic 0 19, zcI (0), zret 2]
def zo328_16 : List zO := [zldA 1, zldA 0, zldI 4, zcI (1), zbI 0, zald 0, zcal 169 2 1 11, zldA 2, zldA 0, zldI 4, zcI (1), zbI 0, zald 0, zcal 310 2 1 14, zic 0 19, zcI (0), zret 2]
def zo328_17 : List zO := [zldA 1, zldA 0, zldI 4, zcI (1), zbI 0, zald 0, zldA 0, zldI 4, zcI (2), zbI 0, zald 0, zcal 170 3 1 11, zldA 2, zldA 0, zldI 4, zcI (1), zbI 0, zald 0, zldA 0, zldI 4, zcI (2), zbI 0, zald 0, zcal 311 3 1 14, zic 0 19, zcI (0), zret 2]
def zo328_18 : List zO := [zldA 1, zldA 0, zldI 4, zcI (1), zbI 0, zald 0, zcal 171 2 1 11, zldA 2, zldA 0, zldI 4, zcI (1), zbI 0, zald 0, zcal 312 2 1 14, zcmp, zif 0 19, zcI (0), zret 2]
def zo328_19 : List zO := [zinc 4 (4), zgo 1]
def zo328_20 : List zO := [zcI (1), zret 2]
def zt328 (b : Nat) : List zO := match b with
  | 0 => zo328_0
  | 1 => zo328_1
  | 2 => zo328_2
  | 3 => zo328_3
  | 4 => zo328_4
  | 5 => zo328_5
  | 6 => zo328_6
  | 7 => zo328_7
  | 8 => zo328_8
  | 9 => zo328_9
  | 10 => zo328_10
  | 11 => zo328_11
  | 12 => zo328_12
  | 13 => zo328_13
  | 14 => zo328_14
  | 15 => zo328_15
  | 16 => zo328_16
  | 17 => zo328_17
  | 18 => zo328_18
  | 19 => zo328_19
  | 20 => zo328_20
  | _ => []
def zBP_0 : List (List Nat) := [[0],
  [0, 17, 27, 28],
  [0, 14, 37, 47],
  [0, 29, 33, 34, 35, 42, 92, 102, 103, 104, 114, 115, 116, 127, 128, 129, 138, 139, 140, 150, 151],
  [0, 12, 24, 58, 64, 65, 79, 84],
  [0, 88, 111, 119, 120, 140, 148, 149, 157, 169, 170, 174, 186, 187, 191, 203, 204, 208],
  [0, 25, 35, 39, 40, 51, 58],
  [0, 9, 19, 23, 24, 50, 76, 87, 98, 107],
  [0, 72, 99, 106, 133, 137, 159, 160, 165, 202, 203, 207, 244, 245],
  [0, 11],
  [0],
  [0, 64, 91, 102, 116, 131, 158, 162, 163, 174, 203, 204, 225, 257, 271],
  [0, 52, 54, 56, 58, 60],
  [0, 60, 68, 75, 76, 84, 89, 90, 110, 119, 120, 124, 134, 148, 149],
  [0],
  [0, 29, 30, 48, 50],
  [0],
  [0, 13, 14],
  [0],
  [0],
  [0, 3, 40],
  [0, 14, 18, 37, 38],
  [0, 33, 34],
  [0, 29, 30],
  [0, 38, 52, 66],
  [0, 2, 37, 43],
  [0, 14, 53],
  [0, 21, 22],
  [0],
  [0]]
def zBP_1 : List (List Nat) := [[0, 27, 48, 61, 67],
  [0, 21, 27, 92, 106, 124, 129, 134],
  [0, 26, 102, 109, 156, 178, 189, 195],
  [0, 7, 57],
  [0, 20, 24, 41, 42],
  [0, 48, 61, 62, 63, 87, 88, 89, 111, 133, 137, 138, 139],
  [0, 16, 35, 36],
  [0, 29],
  [0, 22, 30, 48],
  [0, 20, 24, 25, 38, 43, 56],
  [0, 34, 35, 62, 134],
  [0],
  [0],
  [0, 16, 20, 27],
  [0, 21, 22],
  [0, 26, 28, 45],
  [0, 6, 48, 54],
  [0, 4, 27, 33],
  [0, 6, 11, 54, 57, 63],
  [0, 16, 19, 33, 52, 68, 71, 82, 103, 106, 137, 143, 161, 184, 185],
  [0, 12, 14, 48, 54],
  [0, 2, 33, 35, 41],
  [0, 3, 22, 28],
  [0, 2, 36, 38, 41, 60, 66, 72],
  [0, 10, 44, 50, 74, 100, 106, 148, 149],
  [0, 2, 63, 69],
  [0, 7, 58, 64],
  [0, 2, 25, 31, 33, 56, 62],
  [0, 35, 39, 40],
  [0, 5, 53, 55, 74, 98, 99]]
def zBP_2 : List (List Nat) := [[0, 2, 26, 28, 103],
  [0, 2, 34],
  [0, 12],
  [0],
  [0, 12, 14, 34, 89, 91, 125, 131],
  [0],
  [0, 9, 10, 119, 144, 155, 188, 219],
  [0],
  [0, 15, 64, 86, 125, 147, 163, 179, 185],
  [0, 37, 84, 91, 98, 105, 112, 136, 142],
  [0, 22, 23],
  [0, 44, 45],
  [0],
  [0, 19],
  [0, 19],
  [0],
  [0],
  [0, 9, 60, 87, 106, 126, 146, 154, 162, 170, 178],
  [0, 25],
  [0, 17],
  [0, 13, 52, 95, 118, 127],
  [0, 25, 53],
  [0, 68, 81, 86],
  [0, 54, 59],
  [0, 4, 38],
  [0, 29, 48, 53],
  [0, 13, 33],
  [0, 47, 110],
  [0],
  [0, 17, 20]]
def zBP_3 : List (List Nat) := [[0],
  [0],
  [0],
  [0, 13, 14],
  [0, 36, 37],
  [0, 34, 35],
  [0, 37, 38],
  [0],
  [0],
  [0, 11, 38, 44],
  [0, 14, 21, 44, 65, 74, 75, 82],
  [0, 17, 19, 91, 93, 141, 147],
  [0, 11, 55, 61],
  [0],
  [0],
  [0, 12, 13],
  [0],
  [0],
  [0, 39, 67, 73],
  [0],
  [0, 52],
  [0, 53, 87, 95, 108, 149],
  [0, 19, 29, 41, 65],
  [0, 56, 62, 69, 75, 80, 86],
  [0, 11, 31, 33, 47, 48],
  [0, 13, 55, 56],
  [0, 13, 43],
  [0, 2, 20, 82, 83, 99, 103, 104, 105, 111],
  [0, 4, 23, 105, 118, 119, 120, 128],
  [0, 6, 24, 35, 48, 52, 53, 62, 63]]
def zBP_4 : List (List Nat) := [[0, 102, 129],
  [0, 16, 20, 48, 123, 124],
  [0],
  [0],
  [0, 17, 28],
  [0],
  [0],
  [0],
  [0],
  [0],
  [0, 45, 46],
  [0, 10, 42, 48],
  [0, 23, 29, 68, 70, 94],
  [0, 32, 33],
  [0, 2, 30, 36],
  [0, 23, 30, 70, 72, 87],
  [0, 12, 54, 56, 123, 124],
  [0, 57, 112],
  [0, 13, 50, 52, 105, 106, 133, 135, 148, 149, 169, 171, 187, 204],
  [0, 35, 36],
  [0, 35, 37, 44, 85, 113, 119],
  [0, 39, 41, 47, 82, 108],
  [0, 24, 29, 63, 84],
  [0],
  [0],
  [0],
  [0, 12, 13, 35, 36, 62, 74],
  [0, 17, 96],
  [0, 17, 86],
  [0]]
def zBP_5 : List (List Nat) := [[0],
  [0],
  [0, 17, 20],
  [0],
  [0, 6, 37, 53, 54],
  [0, 22, 61],
  [0],
  [0, 23, 25, 30, 72],
  [0],
  [0, 18, 20],
  [0, 33, 47, 63, 75],
  [0, 82, 84, 85, 108, 133, 150],
  [0],
  [0],
  [0, 16, 56, 61, 72, 73, 74, 79, 84, 92, 98],
  [0, 41, 49, 65, 83, 93],
  [0, 27, 29],
  [0, 34, 36],
  [0],
  [0, 10, 14, 20],
  [0, 12, 44, 49, 54, 60, 65],
  [0, 60, 68, 77, 86, 95, 104, 110, 116, 125, 134, 140, 145],
  [0, 40, 59, 60],
  [0, 32, 58, 75, 110, 111, 173, 179],
  [0, 12, 16, 22],
  [0, 24, 36],
  [0, 69],
  [0],
  [0],
  [0, 9, 24, 28, 29]]
def zBP_6 : List (List Nat) := [[0, 27, 50, 71, 77, 81, 82],
  [0],
  [0, 25, 29, 30, 42, 64, 68, 69, 81, 195, 252],
  [0, 6, 53],
  [0, 11, 15, 29, 30, 42],
  [0],
  [0, 16, 27, 76, 78],
  [0, 23, 41, 52, 66, 77, 89, 91, 117, 139, 141, 148],
  [0],
  [0, 10, 11],
  [0],
  [0],
  [0],
  [0],
  [0],
  [0, 2, 49],
  [0, 21, 40, 49, 50],
  [0, 4, 26],
  [0, 8, 14, 33, 70, 72, 80],
  [0, 5, 37, 38, 46],
  [0, 24, 63, 64],
  [0, 12, 14, 56, 60, 61],
  [0, 12, 16],
  [0, 19, 20],
  [0, 33, 34],
  [0, 28, 29, 30, 48, 70, 71, 72, 172, 179, 201, 202, 203, 234, 235, 236, 243, 265, 266, 267, 274, 281, 303, 304, 305, 312, 319, 326, 348, 349, 350, 357],
  [0, 12, 14, 35, 51, 64, 65],
  [0, 21, 22, 76, 102, 114, 133, 142, 143, 169, 181, 200, 209, 210, 231, 236, 237, 249, 257, 282, 283, 294, 295, 302, 303, 307, 308, 323, 334, 357, 358, 369, 370, 378, 379, 380, 383, 384, 396, 404, 413, 414, 429, 440, 444, 447, 448, 460, 461, 465, 477, 478, 482, 494, 495],
  [0, 2, 51, 57],
  [0, 48, 77, 79, 121, 139, 148, 157, 170, 200, 208, 221, 222, 224, 254, 260, 305, 311, 320, 339, 340, 344, 363, 364]]
def zBP_7 : List (List Nat) := [[0, 19, 20, 24, 117, 118, 122, 186, 187, 194, 200],
  [0],
  [0, 72, 88, 101, 113, 127, 151, 159, 192, 193, 213, 233, 245, 253, 288, 297],
  [0, 10, 16, 29, 33, 40, 76, 87, 103, 114, 153, 187, 267, 273, 274, 284, 285, 289, 305, 316, 317],
  [0, 14, 48, 60, 90, 91, 95, 100],
  [0, 21],
  [0, 21],
  [0],
  [0, 59, 63],
  [0, 48, 63, 70, 103, 115, 130, 140, 162, 177],
  [0, 7, 58, 127, 133],
  [0, 9, 64, 80, 98, 108, 110, 125, 126, 160, 170, 190, 200, 201, 227, 241, 251],
  [0, 9, 49, 92],
  [0, 71, 77, 92, 93, 107, 113, 129, 135, 149, 180, 222],
  [0, 63, 100, 123, 129, 132, 175, 181],
  [0, 12, 13, 25, 37, 59, 63, 64, 76, 174, 192, 202, 223, 237, 244],
  [0, 19, 20],
  [0, 38, 39],
  [0],
  [0, 9, 24, 28, 29],
  [0, 2, 17],
  [0],
  [0],
  [0, 28, 106, 126, 132, 166, 172, 175],
  [0, 9, 36, 37, 44],
  [0, 7, 27],
  [0, 6, 53],
  [0, 17],
  [0, 9, 30],
  [0, 9, 47, 79, 94, 95]]
def zBP_8 : List (List Nat) := [[0, 12, 56, 57, 65, 83, 98, 102, 103, 127, 128, 154, 167, 194, 195],
  [0, 16],
  [0, 24, 28, 29, 40, 48, 72, 98, 106, 114, 120, 171, 172, 246, 250, 251, 286, 298, 337, 340, 344, 348, 349, 355, 375, 402, 406, 407, 413, 445, 489, 498],
  [0, 7, 26],
  [0, 18, 51, 75, 84, 108, 113],
  [0, 460, 471, 472],
  [0],
  [0, 28, 30, 35, 74],
  [0],
  [0, 25, 26],
  [0, 3, 60, 66],
  [0, 4, 27],
  [0, 17, 18, 23, 54, 55, 64],
  [0],
  [0],
  [0, 64, 66],
  [0, 21, 38, 64, 87, 101, 134, 146, 149, 223, 265, 271],
  [0, 9, 24, 28, 29],
  [0, 4, 51, 98, 104],
  [0, 32, 44, 84],
  [0, 17],
  [0, 28, 37],
  [0, 58, 65, 96, 126, 139, 152, 165, 168, 203],
  [0, 22, 44, 48, 49, 68, 72, 101, 105, 115, 119, 120],
  [0, 34, 55, 80, 89, 137, 146, 155, 164, 165, 183, 199, 209, 231, 239, 266, 286, 310, 312, 325, 345, 351, 355, 378, 392, 394],
  [0, 29, 57, 89, 92, 94, 111, 144, 157],
  [0, 7, 28],
  [0, 35, 36],
  [0, 34, 35],
  [0, 37, 38]]
def zBP_9 : List (List Nat) := [[0, 31, 35],
  [0, 28, 29, 62, 66, 67],
  [0, 29, 33, 34],
  [0, 10, 11, 21, 26, 74, 75, 118, 119, 132, 133, 166, 184, 185, 237, 241, 242, 249],
  [0, 20, 22, 67, 68],
  [0, 21, 23, 34, 124, 125, 130, 140, 159, 160],
  [0, 11, 39, 49, 62],
  [0, 13, 15, 39, 90, 91, 94, 151, 152, 159, 161, 204, 205, 212, 214, 255, 372, 373],
  [0, 34, 96, 97, 115, 116, 120, 150, 151, 158, 164, 166, 225, 226, 244, 245, 249, 279, 280, 287, 290, 323, 324, 331, 337],
  [0, 3, 42, 77, 83, 176],
  [0, 7, 17, 84, 90],
  [0, 16, 19],
  [0, 6, 75, 101, 136, 213, 219, 223, 269, 270, 309, 313, 314, 321],
  [0, 16, 17, 20, 67, 71, 72, 79],
  [0, 4, 33, 34, 41, 43, 72, 73, 80],
  [0, 18, 19, 22, 51, 55, 56, 63],
  [0, 13, 14, 18, 81, 82, 100, 131, 132],
  [0, 4, 77, 78, 85],
  [0],
  [0, 14, 24, 34, 81, 84, 113, 123, 133, 150, 160, 185, 207, 208],
  [0],
  [0, 2, 71],
  [0, 2, 37],
  [0, 94, 156, 179, 248],
  [0, 27, 62],
  [0, 10, 96, 98, 124],
  [0, 10, 96, 98, 124],
  [0, 11, 68, 69, 71, 105],
  [0, 4, 69, 75, 77, 144],
  [0, 25, 38, 52, 111, 128, 179]]
def zBP_10 : List (List Nat) := [[0, 2, 31, 33, 69],
  [0, 2, 55],
  [0, 71, 72, 88, 92, 116, 126],
  [0, 71, 75],
  [0, 22, 24, 31, 70, 72, 99, 105, 112, 114, 149],
  [0, 17, 19, 60, 67, 79, 80, 81, 88, 95, 102, 109],
  [0, 13, 17, 40, 44, 45, 59, 78, 97, 108],
  [0, 42, 43, 47, 51, 67],
  [0],
  [0, 10, 50, 53, 59],
  [0, 14, 60, 65, 70, 75, 80, 85, 90, 95, 100],
  [0, 17, 19, 32, 46, 60, 74, 75],
  [0, 10, 33, 34, 42, 51, 92, 152, 157, 163, 169, 171, 177, 183, 189, 192, 195, 201, 206],
  [0, 12, 13],
  [0, 27],
  [0, 18],
  [0, 25],
  [0, 9, 10],
  [0, 10, 11],
  [0, 9, 10],
  [0, 10, 11],
  [0, 5, 20],
  [0, 14],
  [0, 14],
  [0, 14],
  [0, 37],
  [0, 10, 17],
  [0],
  [0, 33, 124, 193, 204, 273, 286, 299, 312, 337, 374, 434, 450, 453, 490, 560, 597, 622, 659, 685, 691]]
def zBP : List (List Nat) := zBP_0 ++ zBP_1 ++ zBP_2 ++ zBP_3 ++ zBP_4 ++ zBP_5 ++ zBP_6 ++ zBP_7 ++ zBP_8 ++ zBP_9 ++ zBP_10
def zbp (q b : Nat) : Nat := (zBP.getD q []).getD b 0
def zGL_0 : List ((Nat → List zO) × Nat) := [(zt0, 3),
  (zt1, 3),
  (zt2, 4),
  (zt3, 5),
  (zt4, 2),
  (zt5, 6),
  (zt6, 6),
  (zt7, 7),
  (zt8, 7),
  (zt9, 6),
  (zt10, 7),
  (zt11, 7),
  (zt12, 2),
  (zt13, 4),
  (zt14, 4),
  (zt15, 5),
  (zt16, 3),
  (zt17, 2),
  (zt18, 2),
  (zt19, 2),
  (zt20, 5),
  (zt21, 6),
  (zt22, 5),
  (zt23, 5),
  (zt24, 7),
  (zt25, 3),
  (zt26, 6),
  (zt27, 1),
  (zt28, 2),
  (zt29, 2)]
def zGL_1 : List ((Nat → List zO) × Nat) := [(zt30, 5),
  (zt31, 3),
  (zt32, 6),
  (zt33, 3),
  (zt34, 2),
  (zt35, 1),
  (zt36, 2),
  (zt37, 2),
  (zt38, 4),
  (zt39, 6),
  (zt40, 2),
  (zt41, 3),
  (zt42, 2),
  (zt43, 3),
  (zt44, 4),
  (zt45, 5),
  (zt46, 7),
  (zt47, 3),
  (zt48, 5),
  (zt49, 5),
  (zt50, 4),
  (zt51, 5),
  (zt52, 5),
  (zt53, 6),
  (zt54, 4),
  (zt55, 7),
  (zt56, 6),
  (zt57, 3),
  (zt58, 5),
  (zt59, 6)]
def zGL_2 : List ((Nat → List zO) × Nat) := [(zt60, 4),
  (zt61, 3),
  (zt62, 4),
  (zt63, 2),
  (zt64, 3),
  (zt65, 2),
  (zt66, 8),
  (zt67, 3),
  (zt68, 6),
  (zt69, 2),
  (zt70, 1),
  (zt71, 1),
  (zt72, 2),
  (zt73, 2),
  (zt74, 2),
  (zt75, 2),
  (zt76, 3),
  (zt77, 1),
  (zt78, 6),
  (zt79, 2),
  (zt80, 3),
  (zt81, 1),
  (zt82, 2),
  (zt83, 2),
  (zt84, 4),
  (zt85, 2),
  (zt86, 2),
  (zt87, 6),
  (zt88, 1),
  (zt89, 7)]
def zGL_3 : List ((Nat → List zO) × Nat) := [(zt90, 3),
  (zt91, 2),
  (zt92, 2),
  (zt93, 2),
  (zt94, 6),
  (zt95, 4),
  (zt96, 5),
  (zt97, 5),
  (zt98, 6),
  (zt99, 5),
  (zt100, 6),
  (zt101, 6),
  (zt102, 8),
  (zt103, 4),
  (zt104, 5),
  (zt105, 1),
  (zt106, 6),
  (zt107, 1),
  (zt108, 5),
  (zt109, 1),
  (zt110, 4),
  (zt111, 7),
  (zt112, 5),
  (zt113, 4),
  (zt114, 3),
  (zt115, 2),
  (zt116, 3),
  (zt117, 4),
  (zt118, 4),
  (zt119, 4)]
def zGL_4 : List ((Nat → List zO) × Nat) := [(zt120, 4),
  (zt121, 4),
  (zt122, 1),
  (zt123, 2),
  (zt124, 2),
  (zt125, 1),
  (zt126, 2),
  (zt127, 1),
  (zt128, 3),
  (zt129, 1),
  (zt130, 3),
  (zt131, 4),
  (zt132, 4),
  (zt133, 2),
  (zt134, 3),
  (zt135, 5),
  (zt136, 6),
  (zt137, 4),
  (zt138, 13),
  (zt139, 1),
  (zt140, 4),
  (zt141, 4),
  (zt142, 5),
  (zt143, 3),
  (zt144, 2),
  (zt145, 2),
  (zt146, 3),
  (zt147, 5),
  (zt148, 4),
  (zt149, 2)]
def zGL_5 : List ((Nat → List zO) × Nat) := [(zt150, 1),
  (zt151, 7),
  (zt152, 7),
  (zt153, 4),
  (zt154, 7),
  (zt155, 3),
  (zt156, 2),
  (zt157, 5),
  (zt158, 1),
  (zt159, 4),
  (zt160, 3),
  (zt161, 2),
  (zt162, 1),
  (zt163, 2),
  (zt164, 4),
  (zt165, 5),
  (zt166, 4),
  (zt167, 6),
  (zt168, 3),
  (zt169, 2),
  (zt170, 4),
  (zt171, 2),
  (zt172, 2),
  (zt173, 6),
  (zt174, 2),
  (zt175, 3),
  (zt176, 5),
  (zt177, 2),
  (zt178, 1),
  (zt179, 1)]
def zGL_6 : List ((Nat → List zO) × Nat) := [(zt180, 3),
  (zt181, 1),
  (zt182, 5),
  (zt183, 6),
  (zt184, 5),
  (zt185, 3),
  (zt186, 5),
  (zt187, 6),
  (zt188, 4),
  (zt189, 2),
  (zt190, 3),
  (zt191, 2),
  (zt192, 3),
  (zt193, 6),
  (zt194, 3),
  (zt195, 4),
  (zt196, 2),
  (zt197, 4),
  (zt198, 6),
  (zt199, 5),
  (zt200, 2),
  (zt201, 1),
  (zt202, 2),
  (zt203, 3),
  (zt204, 3),
  (zt205, 2),
  (zt206, 6),
  (zt207, 7),
  (zt208, 4),
  (zt209, 6)]
def zGL_7 : List ((Nat → List zO) × Nat) := [(zt210, 8),
  (zt211, 7),
  (zt212, 6),
  (zt213, 8),
  (zt214, 2),
  (zt215, 3),
  (zt216, 3),
  (zt217, 2),
  (zt218, 4),
  (zt219, 4),
  (zt220, 6),
  (zt221, 4),
  (zt222, 5),
  (zt223, 7),
  (zt224, 4),
  (zt225, 5),
  (zt226, 1),
  (zt227, 1),
  (zt228, 1),
  (zt229, 1),
  (zt230, 2),
  (zt231, 5),
  (zt232, 2),
  (zt233, 8),
  (zt234, 4),
  (zt235, 2),
  (zt236, 6),
  (zt237, 3),
  (zt238, 1),
  (zt239, 5)]
def zGL_8 : List ((Nat → List zO) × Nat) := [(zt240, 8),
  (zt241, 3),
  (zt242, 9),
  (zt243, 2),
  (zt244, 2),
  (zt245, 2),
  (zt246, 1),
  (zt247, 5),
  (zt248, 1),
  (zt249, 2),
  (zt250, 6),
  (zt251, 4),
  (zt252, 7),
  (zt253, 3),
  (zt254, 8),
  (zt255, 5),
  (zt256, 8),
  (zt257, 1),
  (zt258, 4),
  (zt259, 5),
  (zt260, 3),
  (zt261, 1),
  (zt262, 9),
  (zt263, 3),
  (zt264, 7),
  (zt265, 4),
  (zt266, 5),
  (zt267, 4),
  (zt268, 4),
  (zt269, 6)]
def zGL_9 : List ((Nat → List zO) × Nat) := [(zt270, 2),
  (zt271, 3),
  (zt272, 8),
  (zt273, 6),
  (zt274, 4),
  (zt275, 10),
  (zt276, 4),
  (zt277, 4),
  (zt278, 6),
  (zt279, 6),
  (zt280, 5),
  (zt281, 4),
  (zt282, 7),
  (zt283, 4),
  (zt284, 3),
  (zt285, 3),
  (zt286, 6),
  (zt287, 4),
  (zt288, 1),
  (zt289, 1),
  (zt290, 7),
  (zt291, 5),
  (zt292, 3),
  (zt293, 6),
  (zt294, 5),
  (zt295, 2),
  (zt296, 2),
  (zt297, 8),
  (zt298, 4),
  (zt299, 6)]
def zGL_10 : List ((Nat → List zO) × Nat) := [(zt300, 2),
  (zt301, 2),
  (zt302, 2),
  (zt303, 1),
  (zt304, 4),
  (zt305, 3),
  (zt306, 4),
  (zt307, 3),
  (zt308, 4),
  (zt309, 5),
  (zt310, 2),
  (zt311, 3),
  (zt312, 9),
  (zt313, 2),
  (zt314, 6),
  (zt315, 3),
  (zt316, 6),
  (zt317, 2),
  (zt318, 4),
  (zt319, 2),
  (zt320, 4),
  (zt321, 4),
  (zt322, 3),
  (zt323, 3),
  (zt324, 3),
  (zt325, 2),
  (zt326, 3),
  (zt327, 5),
  (zt328, 8)]
def zGL : List ((Nat → List zO) × Nat) := zGL_0 ++ zGL_1 ++ zGL_2 ++ zGL_3 ++ zGL_4 ++ zGL_5 ++ zGL_6 ++ zGL_7 ++ zGL_8 ++ zGL_9 ++ zGL_10
def zGG : zG := fun q => zGL.getD q (fun _ => [], 0)
def zFL_0 : List (Nat × Nat × Nat × Nat × Nat) := [(5, 13, 5, 0, 1037),
  (0, 40, 5, 0, 1038),
  (9, 147, 5, 0, 1039),
  (5, 17, 5, 1, 1040),
  (9, 95, 5, 1, 1041),
  (0, 151, 5, 1, 1042),
  (5, 21, 5, 2, 1043),
  (10, 53, 5, 2, 1044),
  (0, 171, 5, 2, 1045),
  (9, 178, 5, 2, 1046),
  (5, 24, 5, 3, 1047),
  (0, 148, 5, 3, 1048),
  (5, 27, 5, 4, 1049),
  (9, 98, 5, 4, 1050),
  (0, 132, 5, 4, 1051),
  (5, 31, 5, 5, 1052),
  (11, 89, 5, 5, 1053),
  (4, 71, 5, 5, 1054),
  (2, 85, 5, 5, 1055),
  (0, 98, 5, 5, 1056),
  (5, 34, 5, 6, 1057),
  (5, 37, 5, 7, 1058),
  (2, 121, 5, 7, 1059),
  (11, 245, 5, 7, 1060),
  (4, 65, 5, 8, 1061),
  (0, 108, 5, 8, 1062),
  (5, 68, 5, 8, 1063),
  (2, 23, 2, 0, 1092),
  (2, 11, 2, 1, 1093),
  (11, 34, 2, 1, 1094),
  (2, 17, 2, 2, 1095),
  (2, 20, 2, 3, 1096),
  (2, 37, 2, 4, 1097),
  (2, 40, 2, 5, 1098),
  (2, 31, 2, 6, 1099),
  (2, 58, 2, 7, 1100),
  (2, 61, 2, 8, 1101),
  (2, 27, 2, 9, 1102),
  (11, 254, 2, 9, 1103),
  (2, 34, 2, 10, 1104),
  (11, 251, 2, 10, 1105),
  (8, 11, 8, 0, 1135),
  (8, 17, 8, 1, 1136),
  (8, 21, 8, 2, 1137),
  (8, 25, 8, 3, 1138),
  (8, 28, 8, 4, 1139),
  (8, 31, 8, 5, 1140),
  (8, 50, 8, 6, 1141),
  (8, 34, 8, 7, 1142),
  (8, 37, 8, 8, 1143),
  (8, 47, 8, 9, 1144),
  (8, 82, 8, 10, 1145),
  (8, 41, 8, 11, 1146),
  (11, 105, 8, 11, 1147),
  (8, 44, 8, 12, 1148),
  (11, 108, 8, 12, 1149),
  (1, 9, 1, 0, 1190),
  (11, 189, 1, 0, 1191),
  (3, 168, 1, 0, 1192),
  (9, 146, 1, 0, 1193),
  (1, 15, 1, 1, 1194),
  (11, 192, 1, 1, 1195),
  (3, 171, 1, 1, 1196),
  (9, 189, 1, 1, 1197),
  (1, 19, 1, 2, 1198),
  (11, 196, 1, 2, 1199),
  (3, 174, 1, 2, 1200),
  (9, 192, 1, 2, 1201),
  (1, 22, 1, 3, 1202),
  (3, 134, 1, 3, 1203),
  (11, 178, 1, 3, 1204),
  (9, 134, 1, 3, 1205),
  (9, 49, 9, 0, 1215),
  (9, 53, 9, 1, 1216),
  (9, 11, 9, 2, 1217),
  (9, 15, 9, 3, 1218),
  (9, 18, 9, 4, 1219),
  (3, 191, 9, 4, 1220),
  (9, 21, 9, 5, 1221),
  (9, 26, 9, 6, 1222),
  (3, 121, 9, 6, 1223),
  (9, 30, 9, 7, 1224),
  (9, 33, 9, 8, 1225),
  (9, 39, 9, 9, 1226),
  (3, 131, 9, 9, 1227),
  (9, 43, 9, 10, 1228),
  (11, 271, 9, 10, 1229),
  (9, 46, 9, 11, 1230),
  (11, 265, 9, 12, 1231),
  (9, 143, 9, 12, 1232),
  (11, 286, 9, 13, 1233),
  (9, 158, 9, 13, 1234),
  (3, 13, 3, 0, 2040),
  (3, 40, 3, 1, 2041),
  (3, 44, 3, 2, 2042),
  (11, 225, 3, 2, 2043),
  (3, 73, 3, 3, 2044),
  (3, 67, 3, 4, 2045),
  (11, 222, 3, 4, 2046),
  (11, 231, 3, 5, 2047),
  (3, 215, 3, 5, 2048),
  (11, 203, 3, 6, 2049),
  (3, 202, 3, 6, 2050),
  (11, 234, 3, 7, 2051),
  (3, 206, 3, 7, 2052),
  (11, 237, 3, 8, 2053),
  (3, 209, 3, 8, 2054),
  (3, 17, 3, 9, 2055),
  (3, 21, 3, 10, 2056),
  (3, 25, 3, 11, 2057),
  (3, 33, 3, 12, 2058),
  (11, 255, 3, 12, 2059),
  (3, 37, 3, 13, 2060),
  (10, 36, 10, 0, 2102),
  (10, 15, 10, 1, 2103),
  (0, 34, 10, 1, 2104),
  (4, 142, 10, 1, 2105),
  (10, 19, 10, 2, 2106),
  (0, 52, 10, 2, 2107),
  (4, 130, 10, 2, 2108)]
def zFL_1 : List (Nat × Nat × Nat × Nat × Nat) := [(10, 23, 10, 3, 2109),
  (0, 43, 10, 3, 2110),
  (4, 179, 10, 3, 2111),
  (10, 27, 10, 4, 2112),
  (0, 91, 10, 4, 2113),
  (4, 182, 10, 4, 2114),
  (10, 40, 10, 5, 2115),
  (10, 30, 10, 6, 2116),
  (10, 33, 10, 7, 2117),
  (10, 44, 10, 8, 2118),
  (0, 15, 0, 0, 2144),
  (0, 19, 0, 1, 2145),
  (0, 11, 0, 2, 2146),
  (4, 205, 0, 2, 2147),
  (4, 34, 4, 0, 2155),
  (4, 43, 4, 1, 2156),
  (4, 52, 4, 2, 2157),
  (4, 13, 4, 3, 2158),
  (4, 17, 4, 4, 2159),
  (4, 21, 4, 5, 2160),
  (4, 25, 4, 6, 2161),
  (4, 28, 4, 7, 2162),
  (4, 31, 4, 8, 2163),
  (4, 96, 4, 9, 2164),
  (4, 114, 4, 10, 2165),
  (4, 108, 4, 11, 2166),
  (4, 111, 4, 12, 2167),
  (4, 131, 4, 13, 2168),
  (4, 143, 4, 14, 2169),
  (4, 105, 4, 15, 2170),
  (11, 312, 4, 15, 2171),
  (4, 99, 4, 16, 2172),
  (11, 309, 4, 16, 2173),
  (4, 102, 4, 17, 2174),
  (11, 315, 4, 17, 2175),
  (11, 10, 11, 0, 2218),
  (11, 21, 11, 1, 2219),
  (11, 28, 11, 2, 2220),
  (11, 41, 11, 3, 2221),
  (11, 59, 11, 4, 2222),
  (11, 66, 11, 5, 2223),
  (11, 72, 11, 6, 2224),
  (11, 76, 11, 7, 2225),
  (11, 111, 11, 8, 2226),
  (11, 85, 11, 9, 2227),
  (11, 93, 11, 10, 2228),
  (11, 118, 11, 11, 2229),
  (11, 240, 11, 12, 2230),
  (6, 15, 6, 0, 3069),
  (3, 82, 6, 0, 3070),
  (11, 159, 6, 0, 3071),
  (6, 18, 6, 1, 3072),
  (3, 76, 6, 1, 3073),
  (11, 174, 6, 1, 3074),
  (6, 22, 6, 2, 3075),
  (11, 183, 6, 2, 3076),
  (6, 26, 6, 3, 3077),
  (11, 168, 6, 3, 3078),
  (3, 227, 6, 3, 3079),
  (6, 9, 6, 4, 3080),
  (11, 171, 6, 4, 3081),
  (3, 212, 6, 4, 3082),
  (7, 7, 7, 0, 3185),
  (4, 78, 7, 0, 3186),
  (7, 13, 7, 1, 3187),
  (4, 79, 7, 1, 3188),
  (7, 17, 7, 2, 3189),
  (4, 80, 7, 2, 3190),
  (7, 21, 7, 3, 3191),
  (4, 68, 7, 3, 3192),
  (11, 218, 7, 3, 3193),
  (7, 24, 7, 4, 3194),
  (4, 56, 7, 4, 3195),
  (11, 214, 7, 4, 3196),
  (7, 28, 7, 5, 3197),
  (11, 215, 7, 5, 3198),
  (11, 219, 7, 6, 3199),
  (13, 87, 13, 0, 6224),
  (13, 9, 13, 1, 6225),
  (13, 15, 13, 2, 6226),
  (13, 19, 13, 3, 6228),
  (13, 23, 13, 4, 6230),
  (13, 26, 13, 5, 6231),
  (13, 29, 13, 6, 6232),
  (13, 77, 13, 7, 6234),
  (13, 33, 13, 8, 6235),
  (13, 90, 13, 9, 6237),
  (13, 36, 13, 10, 6238),
  (13, 99, 13, 11, 7001),
  (13, 145, 13, 12, 7003),
  (13, 93, 13, 13, 7004),
  (13, 39, 13, 14, 7005),
  (13, 43, 13, 15, 7006),
  (13, 46, 13, 16, 7008),
  (13, 49, 13, 17, 7009),
  (13, 80, 13, 18, 7010),
  (13, 52, 13, 19, 7012),
  (13, 55, 13, 20, 7013),
  (13, 58, 13, 21, 7014),
  (13, 96, 13, 22, 7015),
  (13, 61, 13, 23, 7016),
  (13, 121, 13, 24, 7017),
  (13, 64, 13, 25, 7018),
  (13, 67, 13, 26, 7019),
  (13, 70, 13, 27, 7020),
  (12, 135, 12, 0, 7087),
  (12, 9, 12, 1, 7088),
  (12, 15, 12, 2, 7089),
  (12, 19, 12, 3, 7090),
  (12, 22, 12, 4, 7091),
  (12, 25, 12, 5, 7092),
  (12, 28, 12, 6, 7093),
  (12, 138, 12, 7, 7094),
  (12, 32, 12, 8, 7095),
  (12, 141, 12, 9, 7096),
  (12, 35, 12, 10, 7097),
  (12, 38, 12, 11, 7098),
  (12, 41, 12, 12, 7099),
  (12, 44, 12, 13, 7100),
  (12, 47, 12, 14, 7101)]
def zFL_2 : List (Nat × Nat × Nat × Nat × Nat) := [(12, 50, 12, 15, 7102),
  (12, 53, 12, 16, 7103),
  (12, 56, 12, 17, 7104),
  (12, 59, 12, 18, 7105),
  (12, 158, 12, 19, 7106),
  (12, 63, 12, 20, 7107),
  (12, 165, 12, 21, 7108),
  (12, 66, 12, 22, 7109),
  (12, 69, 12, 23, 7110),
  (12, 72, 12, 24, 7111),
  (12, 75, 12, 25, 7112),
  (12, 171, 12, 26, 7113),
  (12, 79, 12, 27, 7114),
  (12, 312, 12, 28, 7115),
  (12, 82, 12, 29, 7116),
  (12, 85, 12, 30, 7117),
  (12, 309, 12, 31, 7118),
  (12, 88, 12, 32, 7119),
  (12, 91, 12, 33, 7120),
  (12, 94, 12, 34, 7121),
  (12, 97, 12, 35, 7122),
  (12, 285, 12, 36, 7123),
  (12, 288, 12, 37, 7124),
  (12, 100, 12, 38, 7125),
  (12, 103, 12, 39, 7127),
  (12, 106, 12, 40, 7129),
  (12, 109, 12, 41, 7131),
  (12, 112, 12, 42, 7133),
  (12, 115, 12, 43, 7135),
  (12, 118, 12, 44, 7137),
  (12, 267, 12, 45, 7138),
  (12, 273, 12, 46, 7140),
  (12, 270, 12, 47, 7142),
  (12, 276, 12, 48, 7143),
  (12, 185, 12, 49, 7144),
  (12, 343, 12, 50, 7145),
  (12, 279, 12, 51, 7146),
  (12, 297, 12, 52, 7147),
  (12, 282, 12, 53, 7148),
  (12, 122, 12, 54, 7149),
  (12, 125, 12, 55, 7150),
  (12, 168, 12, 56, 7151),
  (12, 128, 12, 57, 7152),
  (14, 182, 14, 0, 8030),
  (14, 7, 14, 1, 8031),
  (14, 188, 14, 2, 8032),
  (14, 256, 14, 3, 8033),
  (14, 13, 14, 4, 8034),
  (14, 17, 14, 5, 8035),
  (14, 20, 14, 6, 8036),
  (14, 23, 14, 7, 8037),
  (14, 26, 14, 8, 8038),
  (14, 29, 14, 9, 8039),
  (14, 34, 14, 10, 8040),
  (14, 191, 14, 11, 8041),
  (14, 229, 14, 12, 8042),
  (14, 209, 14, 13, 8043),
  (14, 37, 14, 14, 8044),
  (14, 40, 14, 15, 8045),
  (14, 43, 14, 16, 8046),
  (14, 46, 14, 17, 8047),
  (14, 49, 14, 18, 8048),
  (14, 53, 14, 19, 8049),
  (14, 56, 14, 20, 8050),
  (14, 59, 14, 21, 8051),
  (14, 62, 14, 22, 8052),
  (14, 194, 14, 23, 8053),
  (14, 535, 14, 24, 8054),
  (14, 65, 14, 25, 8055),
  (14, 68, 14, 26, 8056),
  (14, 71, 14, 27, 8057),
  (14, 517, 14, 28, 8058),
  (14, 504, 14, 29, 8059),
  (14, 74, 14, 30, 8060),
  (14, 78, 14, 31, 8061),
  (14, 501, 14, 32, 8062),
  (14, 81, 14, 33, 8063),
  (14, 84, 14, 34, 8064),
  (14, 87, 14, 35, 8065),
  (14, 90, 14, 36, 8066),
  (14, 520, 14, 37, 8067),
  (14, 325, 14, 38, 8068),
  (14, 93, 14, 39, 8069),
  (14, 96, 14, 40, 8070),
  (14, 99, 14, 41, 8071),
  (14, 102, 14, 42, 8072),
  (14, 105, 14, 43, 8073),
  (14, 108, 14, 44, 8074),
  (14, 111, 14, 45, 8075),
  (14, 114, 14, 46, 8076),
  (14, 287, 14, 47, 8077),
  (14, 284, 14, 48, 8078),
  (14, 297, 14, 49, 8079),
  (14, 117, 14, 50, 8080),
  (14, 120, 14, 51, 8081),
  (14, 388, 14, 52, 8082),
  (14, 123, 14, 53, 8083),
  (14, 391, 14, 54, 8084),
  (14, 394, 14, 55, 8085),
  (14, 126, 14, 56, 8086),
  (14, 129, 14, 57, 8087),
  (14, 132, 14, 58, 8088),
  (14, 135, 14, 59, 8089),
  (14, 138, 14, 60, 8090),
  (14, 144, 14, 61, 8091),
  (14, 151, 14, 62, 8092),
  (14, 185, 14, 63, 8093),
  (14, 155, 14, 64, 8094),
  (14, 158, 14, 65, 8095),
  (14, 437, 14, 66, 8096),
  (14, 161, 14, 67, 8097),
  (14, 164, 14, 68, 8098),
  (14, 167, 14, 69, 8099),
  (14, 170, 14, 70, 8100),
  (14, 173, 14, 71, 8101),
  (14, 176, 14, 72, 8102),
  (14, 179, 14, 73, 8103),
  (14, 478, 14, 74, 8104)]
def zFL : List (Nat × Nat × Nat × Nat × Nat) := zFL_0 ++ zFL_1 ++ zFL_2
def zFN_0 : List (Nat × Nat × Nat × Nat × Nat × Nat) := [(14, 262, 13, 2, 14, 6227),
  (14, 263, 13, 3, 14, 6229),
  (14, 264, 13, 6, 14, 6233),
  (14, 247, 13, 8, 14, 6236),
  (14, 237, 13, 10, 14, 6239),
  (14, 235, 13, 11, 14, 7000),
  (14, 240, 13, 12, 14, 7002),
  (14, 259, 13, 15, 14, 7007),
  (14, 253, 13, 18, 14, 7011),
  (14, 463, 12, 38, 14, 7126),
  (14, 440, 12, 39, 14, 7128),
  (14, 443, 12, 40, 14, 7130),
  (14, 446, 12, 41, 14, 7132),
  (14, 449, 12, 42, 14, 7134),
  (14, 456, 12, 43, 14, 7136),
  (14, 497, 12, 45, 14, 7139),
  (14, 498, 12, 46, 14, 7141)]
def zFN : List (Nat × Nat × Nat × Nat × Nat × Nat) := zFN_0
def zTK : List (Nat × Nat × Nat) := [(0, 23, 5141)]
def zMLK_0 : List (Nat × Nat × Nat × Nat × Nat × Nat × Nat × Nat × Nat) := [(11, 9, 88, 2, 0, 1033, 1034, 0, 1002),
  (11, 18, 29, 2, 0, 1088, 1089, 0, 1003),
  (11, 27, 107, 2, 0, 1131, 1132, 0, 1004),
  (11, 38, 120, 2, 0, 1179, 1180, 0, 1005),
  (11, 47, 319, 0, 0, 2026, 2027, 0, 1008),
  (11, 53, 317, 0, 0, 2029, 2030, 0, 1008),
  (11, 56, 42, 2, 0, 2032, 2033, 0, 1007),
  (11, 65, 65, 2, 0, 2092, 2093, 0, 1009),
  (11, 79, 321, 0, 0, 2215, 2216, 0, 1012),
  (11, 97, 45, 1, 0, 3030, 3031, 3032, 1007),
  (11, 101, 108, 1, 0, 3098, 3099, 3100, 1004),
  (11, 114, 109, 1, 0, 3145, 3146, 3147, 1004),
  (11, 121, 172, 1, 0, 3219, 3221, 11, 1001),
  (11, 125, 121, 1, 0, 4053, 4054, 4055, 1005),
  (11, 129, 49, 1, 0, 4125, 4126, 4127, 1007),
  (11, 133, 50, 1, 0, 4228, 4212, 4213, 1007),
  (11, 137, 173, 1, 0, 4229, 4231, 43, 1001),
  (11, 140, 60, 1, 0, 6048, 6049, 6050, 1007),
  (11, 144, 61, 1, 0, 6075, 6076, 6077, 1007),
  (11, 148, 63, 1, 0, 6083, 6084, 6085, 1007),
  (11, 151, 64, 1, 0, 6095, 6096, 6097, 1007),
  (11, 155, 43, 1, 0, 5025, 4146, 4147, 1007),
  (11, 164, 105, 1, 0, 6103, 3041, 3042, 1016),
  (11, 199, 46, 1, 0, 6112, 3037, 3038, 1007),
  (11, 207, 48, 1, 0, 6117, 6118, 6119, 1007),
  (11, 210, 174, 1, 0, 5026, 5028, 48, 1001),
  (11, 228, 47, 1, 0, 6133, 6134, 6135, 1007),
  (11, 248, 30, 1, 0, 3223, 3224, 3225, 1003),
  (11, 258, 144, 1, 0, 4233, 4234, 4235, 1005),
  (11, 262, 122, 1, 0, 5019, 4134, 4135, 1005),
  (11, 268, 175, 1, 0, 5020, 5022, 47, 1001),
  (11, 272, 123, 1, 0, 5024, 4138, 4139, 1005),
  (11, 276, 176, 1, 0, 5030, 5032, 49, 1001),
  (11, 280, 146, 1, 0, 5035, 5036, 5037, 1005),
  (11, 283, 124, 1, 0, 5041, 5042, 5043, 1005),
  (11, 289, 66, 1, 0, 5045, 5046, 5047, 1009),
  (11, 293, 69, 1, 0, 5067, 5068, 5069, 1009),
  (11, 296, 177, 1, 0, 6036, 6038, 83, 1001),
  (11, 300, 71, 1, 0, 6044, 6045, 6046, 1009),
  (11, 318, 70, 1, 0, 6040, 6041, 6042, 1009),
  (0, 26, 1, 1, 0, 5164, 5138, 5139, 1011),
  (0, 30, 3, 1, 0, 5165, 5167, 67, 1011),
  (0, 46, 5, 1, 0, 5173, 5175, 68, 1011),
  (0, 49, 8, 1, 0, 5202, 5204, 73, 1011),
  (0, 56, 11, 1, 0, 5228, 5230, 76, 1011),
  (0, 59, 13, 1, 0, 6013, 6015, 79, 1011),
  (0, 62, 16, 1, 0, 5177, 5179, 69, 1011),
  (0, 66, 6, 1, 0, 5182, 5184, 70, 1011),
  (0, 70, 17, 1, 0, 5188, 5190, 71, 1011),
  (0, 74, 7, 1, 0, 5192, 5194, 72, 1011),
  (0, 82, 314, 0, 0, 5196, 5197, 0, 1008),
  (0, 88, 316, 0, 0, 5199, 5200, 0, 1008),
  (0, 94, 9, 1, 0, 5206, 5208, 74, 1011),
  (0, 101, 10, 1, 0, 5214, 5216, 75, 1011),
  (0, 105, 102, 1, 0, 5224, 5225, 5226, 1002),
  (0, 112, 103, 1, 0, 5210, 5211, 5212, 1002),
  (0, 116, 152, 1, 0, 5181, 5101, 5102, 1010),
  (0, 120, 318, 0, 0, 5218, 5219, 0, 1008),
  (0, 123, 320, 0, 0, 5221, 5222, 0, 1008),
  (0, 126, 101, 1, 0, 5232, 5233, 5234, 1002),
  (0, 129, 12, 1, 0, 5237, 5239, 77, 1011),
  (0, 133, 98, 1, 0, 6001, 6002, 6003, 1002),
  (0, 137, 18, 1, 0, 6006, 6008, 78, 1011),
  (0, 142, 90, 1, 0, 6011, 4022, 4023, 1002),
  (0, 145, 89, 1, 0, 6012, 4026, 4027, 1002),
  (0, 154, 14, 1, 0, 6017, 6019, 80, 1011),
  (0, 157, 15, 1, 0, 6024, 6026, 81, 1011),
  (0, 161, 92, 1, 0, 6021, 4062, 4063, 1002),
  (0, 164, 97, 1, 0, 6022, 5004, 5005, 1002),
  (0, 167, 91, 1, 0, 6023, 4050, 4051, 1002),
  (0, 174, 100, 1, 0, 6028, 6029, 6030, 1002),
  (1, 26, 21, 0, 0, 3052, 3053, 0, 1006),
  (1, 32, 20, 1, 0, 3048, 3050, 0, 1006),
  (1, 36, 22, 1, 0, 3056, 3058, 1, 1006),
  (1, 48, 24, 1, 0, 4180, 4181, 4182, 1006),
  (1, 52, 19, 2, 0, 6061, 1187, 0, 1006),
  (2, 43, 31, 1, 0, 3227, 3229, 12, 1003),
  (2, 47, 40, 1, 0, 4045, 4047, 22, 1003),
  (2, 50, 32, 1, 0, 3231, 3233, 13, 1003),
  (2, 54, 36, 1, 0, 4017, 4019, 18, 1003),
  (2, 65, 90, 1, 0, 4021, 4022, 4023, 1002),
  (2, 71, 37, 1, 0, 4030, 4032, 19, 1003),
  (2, 74, 38, 1, 0, 4035, 4037, 20, 1003),
  (2, 77, 39, 1, 0, 4040, 4042, 21, 1003),
  (2, 81, 41, 1, 0, 3235, 3237, 14, 1003),
  (2, 89, 33, 1, 0, 3239, 4001, 15, 1003),
  (2, 93, 34, 1, 0, 4003, 4005, 16, 1003),
  (2, 97, 35, 1, 0, 4008, 4010, 17, 1003),
  (2, 113, 89, 1, 0, 4034, 4026, 4027, 1002),
  (2, 124, 91, 1, 0, 4049, 4050, 4051, 1002),
  (3, 30, 19, 2, 0, 2039, 1187, 0, 1006),
  (3, 47, 43, 1, 0, 4145, 4146, 4147, 1007),
  (3, 51, 105, 1, 0, 3040, 3041, 3042, 1016),
  (3, 59, 46, 1, 0, 3036, 3037, 3038, 1007),
  (3, 63, 26, 1, 0, 3060, 3061, 3062, 1006),
  (3, 70, 104, 2, 0, 3065, 3066, 0, 1016),
  (3, 79, 23, 1, 0, 3044, 3045, 3046, 1006),
  (3, 85, 51, 1, 0, 4129, 4131, 34, 1007),
  (3, 89, 53, 1, 0, 4152, 4154, 36, 1007),
  (3, 92, 130, 1, 0, 4164, 4165, 4166, 1005)]
def zMLK_1 : List (Nat × Nat × Nat × Nat × Nat × Nat × Nat × Nat × Nat) := [(3, 98, 129, 1, 0, 4168, 4169, 4170, 1005),
  (3, 102, 54, 1, 0, 4172, 4174, 37, 1007),
  (3, 105, 56, 1, 0, 4195, 4197, 39, 1007),
  (3, 108, 57, 1, 0, 4199, 4201, 40, 1007),
  (3, 111, 50, 1, 0, 4211, 4212, 4213, 1007),
  (3, 114, 59, 1, 0, 4215, 4217, 42, 1007),
  (3, 117, 127, 1, 0, 4187, 4188, 4189, 1005),
  (3, 125, 143, 1, 0, 4223, 4224, 4225, 1005),
  (3, 137, 122, 1, 0, 4133, 4134, 4135, 1005),
  (3, 140, 123, 1, 0, 4137, 4138, 4139, 1005),
  (3, 144, 44, 1, 0, 4141, 4143, 35, 1007),
  (3, 147, 52, 0, 0, 4149, 4150, 0, 1007),
  (3, 151, 125, 1, 0, 4156, 4157, 4158, 1005),
  (3, 154, 126, 1, 0, 4160, 4161, 4162, 1005),
  (3, 157, 25, 1, 0, 4176, 4177, 4178, 1006),
  (3, 161, 24, 1, 0, 4186, 4181, 4182, 1006),
  (3, 164, 55, 1, 0, 4191, 4193, 38, 1007),
  (3, 177, 58, 1, 0, 4203, 4205, 41, 1007),
  (3, 181, 131, 1, 0, 4207, 4208, 4209, 1005),
  (3, 184, 27, 1, 0, 4219, 4220, 4221, 1006),
  (3, 187, 62, 1, 0, 6052, 6054, 84, 1007),
  (3, 194, 28, 1, 0, 6056, 6057, 6058, 1006),
  (3, 198, 128, 1, 0, 6062, 6063, 6064, 1005),
  (3, 218, 319, 0, 0, 6087, 2027, 0, 1008),
  (3, 224, 315, 0, 0, 6088, 6089, 0, 1008),
  (4, 40, 149, 2, 0, 2098, 2099, 0, 1010),
  (4, 49, 0, 2, 0, 2140, 2141, 0, 1011),
  (4, 60, 150, 1, 0, 5049, 5050, 5051, 1010),
  (4, 81, 68, 1, 0, 5054, 5056, 50, 1009),
  (4, 85, 67, 1, 0, 5063, 5065, 51, 1009),
  (4, 88, 151, 1, 0, 5059, 5060, 5061, 1010),
  (4, 92, 89, 1, 0, 5058, 4026, 4027, 1002),
  (4, 118, 77, 1, 0, 5072, 5074, 52, 1009),
  (4, 121, 80, 1, 0, 5112, 5114, 60, 1009),
  (4, 124, 82, 1, 0, 5120, 5122, 62, 1009),
  (4, 127, 85, 1, 0, 5143, 5145, 65, 1009),
  (4, 134, 4, 1, 0, 5169, 5170, 5171, 1011),
  (4, 138, 86, 1, 0, 6032, 6034, 82, 1009),
  (4, 146, 72, 1, 0, 5080, 5082, 54, 1009),
  (4, 149, 73, 1, 0, 5076, 5078, 53, 1009),
  (4, 153, 154, 1, 0, 5084, 5085, 5086, 1010),
  (4, 157, 75, 1, 0, 5088, 5090, 55, 1009),
  (4, 160, 78, 1, 0, 5092, 5094, 56, 1009),
  (4, 164, 79, 1, 0, 5104, 5106, 58, 1009),
  (4, 167, 74, 1, 0, 5096, 5098, 57, 1009),
  (4, 170, 152, 1, 0, 5100, 5101, 5102, 1010),
  (4, 173, 76, 1, 0, 5108, 5110, 59, 1009),
  (4, 176, 81, 1, 0, 5116, 5118, 61, 1009),
  (4, 183, 153, 1, 0, 5124, 5125, 5126, 1010),
  (4, 187, 83, 1, 0, 5129, 5131, 63, 1009),
  (4, 190, 84, 1, 0, 5133, 5135, 64, 1009),
  (4, 193, 1, 1, 0, 5137, 5138, 5139, 1011),
  (4, 196, 87, 1, 0, 5147, 5149, 66, 1009),
  (4, 199, 2, 1, 0, 5160, 5161, 5162, 1011),
  (4, 202, 155, 1, 0, 5151, 5152, 5153, 1010),
  (5, 41, 89, 1, 0, 4025, 4026, 4027, 1002),
  (5, 45, 319, 0, 0, 5007, 2027, 0, 1008),
  (5, 57, 97, 1, 0, 6005, 5004, 5005, 1002),
  (5, 60, 92, 1, 0, 5159, 4062, 4063, 1002),
  (5, 64, 102, 1, 0, 5236, 5225, 5226, 1002),
  (8, 53, 110, 1, 0, 3102, 3104, 2, 1004),
  (8, 57, 111, 1, 0, 3106, 3108, 3, 1004),
  (8, 61, 322, 0, 0, 3151, 3152, 0, 1012),
  (8, 67, 324, 0, 0, 3165, 3166, 0, 1012),
  (8, 70, 323, 0, 0, 3173, 3174, 0, 1012),
  (8, 73, 106, 2, 0, 3181, 3182, 0, 1017),
  (8, 76, 317, 0, 0, 3110, 2030, 0, 1008),
  (8, 86, 113, 1, 0, 3111, 3113, 4, 1004),
  (8, 90, 112, 1, 0, 3141, 3143, 10, 1004),
  (8, 94, 114, 1, 0, 3115, 3117, 5, 1004),
  (8, 98, 115, 1, 0, 3125, 3127, 7, 1004),
  (8, 101, 118, 1, 0, 3129, 3131, 8, 1004),
  (8, 104, 116, 1, 0, 3137, 3139, 9, 1004),
  (8, 107, 117, 1, 0, 3119, 3121, 6, 1004),
  (8, 118, 119, 0, 0, 3134, 3135, 0, 1004),
  (9, 36, 19, 2, 0, 1186, 1187, 0, 1006),
  (9, 56, 96, 1, 0, 4057, 4058, 4059, 1002),
  (9, 62, 92, 1, 0, 4061, 4062, 4063, 1002),
  (9, 66, 132, 1, 0, 4065, 4067, 23, 1005),
  (9, 70, 133, 1, 0, 4077, 4079, 24, 1005),
  (9, 73, 135, 1, 0, 4085, 4087, 26, 1005),
  (9, 79, 94, 1, 0, 4098, 4099, 4100, 1002),
  (9, 83, 139, 1, 0, 4109, 4111, 30, 1005),
  (9, 86, 140, 1, 0, 4113, 4115, 31, 1005),
  (9, 89, 141, 1, 0, 4117, 4119, 32, 1005),
  (9, 92, 142, 1, 0, 4121, 4123, 33, 1005),
  (9, 102, 122, 1, 0, 5039, 4134, 4135, 1005),
  (9, 106, 326, 0, 0, 6066, 6067, 0, 1012),
  (9, 112, 95, 1, 0, 4069, 4070, 4071, 1002),
  (9, 116, 93, 1, 0, 4073, 4074, 4075, 1002),
  (9, 119, 134, 1, 0, 4081, 4083, 25, 1005),
  (9, 122, 136, 1, 0, 4089, 4091, 27, 1005),
  (9, 125, 137, 1, 0, 4093, 4095, 28, 1005),
  (9, 128, 138, 1, 0, 4102, 4104, 29, 1005),
  (9, 140, 26, 1, 0, 4108, 3061, 3062, 1006),
  (9, 151, 127, 1, 0, 4227, 4188, 4189, 1005),
  (9, 154, 89, 1, 0, 4237, 4026, 4027, 1002),
  (9, 161, 90, 1, 0, 4238, 4022, 4023, 1002),
  (9, 165, 145, 1, 0, 4239, 5001, 44, 1005),
  (9, 168, 147, 1, 0, 5009, 5011, 45, 1005)]
def zMLK_2 : List (Nat × Nat × Nat × Nat × Nat × Nat × Nat × Nat × Nat) := [(9, 172, 148, 1, 0, 5014, 5016, 46, 1005),
  (9, 175, 91, 1, 0, 5013, 4050, 4051, 1002),
  (9, 181, 97, 1, 0, 5003, 5004, 5005, 1002),
  (9, 185, 123, 1, 0, 5040, 4138, 4139, 1005),
  (9, 195, 23, 1, 0, 5018, 3045, 3046, 1006),
  (10, 47, 319, 0, 0, 5128, 2027, 0, 1008),
  (10, 58, 99, 1, 0, 5155, 5156, 5157, 1002),
  (15, 15, 313, 0, 0, 6138, 6139, 0, 1000),
  (15, 21, 156, 2, 0, 1025, 1026, 0, 1001),
  (15, 26, 245, 2, 0, 6212, 6213, 0, 1013),
  (15, 29, 157, 1, 0, 3018, 3019, 3020, 1001),
  (15, 33, 247, 1, 0, 9020, 9021, 9022, 1013),
  (15, 34, 158, 1, 0, 3022, 3023, 3024, 1001),
  (15, 37, 248, 1, 0, 9024, 9025, 9026, 1013),
  (15, 38, 159, 1, 0, 3026, 3027, 3028, 1001),
  (15, 42, 255, 1, 0, 9028, 9029, 9030, 1013),
  (15, 43, 160, 1, 0, 3094, 3095, 3096, 1001),
  (15, 47, 256, 1, 0, 9058, 9059, 9060, 1013),
  (15, 48, 161, 1, 0, 3215, 3216, 3217, 1001),
  (15, 51, 302, 1, 0, 9130, 9131, 9132, 1013),
  (15, 52, 162, 1, 0, 6079, 6080, 6081, 1001),
  (15, 55, 303, 1, 0, 11048, 11049, 11050, 1013),
  (15, 56, 163, 1, 0, 6091, 6092, 6093, 1001),
  (15, 60, 304, 1, 0, 11052, 11053, 11054, 1013),
  (15, 61, 164, 1, 0, 6099, 6100, 6101, 1001),
  (15, 65, 305, 1, 0, 11056, 11057, 11058, 1013),
  (15, 69, 306, 1, 0, 11060, 11061, 11062, 1013),
  (15, 70, 246, 1, 0, 9016, 9017, 9018, 1013),
  (15, 73, 166, 1, 0, 6104, 6105, 6106, 1001),
  (15, 76, 307, 1, 0, 11064, 11065, 11066, 1013),
  (15, 77, 167, 1, 0, 6108, 6109, 6110, 1001),
  (15, 81, 308, 1, 0, 11068, 11069, 11070, 1013),
  (15, 82, 168, 1, 0, 6113, 6114, 6115, 1001),
  (15, 85, 309, 1, 0, 11072, 11073, 11074, 1013),
  (15, 86, 169, 1, 0, 6121, 6122, 6123, 1001),
  (15, 89, 310, 1, 0, 11076, 11077, 11078, 1013),
  (15, 90, 170, 1, 0, 6125, 6126, 6127, 1001),
  (15, 93, 311, 1, 0, 11080, 11081, 11082, 1013),
  (15, 94, 171, 1, 0, 6129, 6130, 6131, 1001),
  (15, 98, 312, 1, 0, 11084, 11085, 11086, 1013),
  (14, 143, 228, 2, 15, 6220, 6221, 0, 1014),
  (14, 150, 178, 2, 15, 7081, 7082, 0, 1015),
  (14, 197, 251, 1, 0, 9038, 9040, 87, 1013),
  (14, 201, 249, 1, 0, 9042, 9044, 88, 1013),
  (14, 205, 250, 1, 0, 9046, 9048, 89, 1013),
  (14, 217, 252, 1, 0, 9034, 9036, 86, 1013),
  (14, 221, 253, 1, 0, 9050, 9052, 90, 1013),
  (14, 225, 254, 1, 0, 9054, 9056, 91, 1013),
  (14, 232, 235, 1, 0, 9062, 9063, 9064, 1014),
  (14, 243, 244, 1, 0, 9066, 9067, 9068, 1014),
  (14, 250, 234, 1, 15, 9122, 9124, 103, 1014),
  (14, 265, 257, 0, 0, 10074, 10075, 0, 1013),
  (14, 268, 259, 1, 0, 10077, 10079, 143, 1013),
  (14, 272, 182, 1, 0, 10081, 10082, 10083, 1015),
  (14, 276, 184, 1, 0, 10093, 10094, 10095, 1015),
  (14, 280, 186, 1, 0, 10101, 10102, 10103, 1015),
  (14, 290, 260, 1, 0, 9150, 9152, 109, 1013),
  (14, 294, 261, 1, 0, 9146, 9148, 108, 1013),
  (14, 319, 262, 1, 0, 9142, 9144, 107, 1013),
  (14, 322, 263, 1, 0, 9158, 9160, 110, 1013),
  (14, 336, 264, 1, 0, 9138, 9140, 106, 1013),
  (14, 340, 267, 1, 0, 9179, 9181, 113, 1013),
  (14, 346, 269, 1, 0, 9200, 9202, 118, 1013),
  (14, 354, 268, 1, 0, 9187, 9189, 115, 1013),
  (14, 357, 266, 1, 0, 9183, 9185, 114, 1013),
  (14, 364, 272, 0, 0, 9211, 9212, 0, 1013),
  (14, 368, 271, 1, 0, 9195, 9197, 117, 1013),
  (14, 371, 273, 1, 0, 9204, 9206, 119, 1013),
  (14, 375, 270, 1, 0, 9214, 9216, 120, 1013),
  (14, 378, 274, 1, 0, 9191, 9193, 116, 1013),
  (14, 381, 275, 1, 0, 9218, 9220, 121, 1013),
  (14, 385, 276, 1, 0, 9222, 9224, 122, 1013),
  (14, 397, 279, 1, 0, 9238, 10000, 126, 1013),
  (14, 402, 280, 1, 0, 9234, 9236, 125, 1013),
  (14, 405, 281, 0, 0, 10002, 10003, 0, 1013),
  (14, 409, 283, 1, 0, 10010, 10012, 128, 1013),
  (14, 412, 277, 1, 0, 9175, 9177, 112, 1013),
  (14, 416, 278, 1, 0, 9226, 9228, 123, 1013),
  (14, 419, 282, 1, 0, 9230, 9232, 124, 1013),
  (14, 422, 284, 1, 0, 10006, 10008, 127, 1013),
  (14, 425, 285, 1, 0, 10014, 10016, 129, 1013),
  (14, 428, 286, 1, 0, 10018, 10020, 130, 1013),
  (14, 431, 287, 1, 0, 10022, 10024, 131, 1013),
  (14, 434, 288, 1, 0, 10026, 10028, 132, 1013),
  (14, 452, 290, 1, 0, 10050, 10052, 138, 1013),
  (14, 459, 291, 1, 0, 10046, 10048, 137, 1013),
  (14, 466, 292, 1, 0, 10054, 10056, 139, 1013),
  (14, 469, 295, 1, 0, 10042, 10044, 136, 1013),
  (14, 472, 265, 1, 0, 9134, 9136, 105, 1013),
  (14, 475, 296, 1, 0, 10058, 10060, 140, 1013),
  (14, 481, 294, 1, 0, 10038, 10040, 135, 1013),
  (14, 484, 293, 1, 0, 10062, 10064, 141, 1013),
  (14, 487, 181, 1, 0, 10066, 10067, 10068, 1015),
  (14, 488, 258, 1, 0, 10070, 10072, 142, 1013),
  (14, 491, 185, 1, 0, 10106, 10107, 10108, 1015),
  (14, 494, 225, 1, 0, 10110, 10111, 10112, 1015),
  (14, 499, 226, 1, 0, 11028, 11029, 11030, 1015),
  (14, 507, 227, 1, 0, 11032, 11033, 11034, 1015),
  (14, 510, 297, 1, 0, 10034, 10036, 134, 1013),
  (14, 514, 299, 1, 0, 11040, 11042, 182, 1013)]
def zMLK_3 : List (Nat × Nat × Nat × Nat × Nat × Nat × Nat × Nat × Nat) := [(14, 523, 289, 1, 0, 9171, 9173, 111, 1013),
  (14, 526, 298, 1, 0, 10030, 10032, 133, 1013),
  (14, 529, 300, 1, 0, 11036, 11038, 181, 1013),
  (14, 532, 301, 1, 0, 11044, 11046, 183, 1013),
  (12, 144, 180, 0, 0, 10085, 10086, 0, 1015),
  (12, 148, 179, 0, 0, 10090, 10091, 0, 1015),
  (12, 152, 183, 1, 0, 10097, 10099, 144, 1015),
  (12, 161, 188, 1, 0, 10122, 10124, 147, 1015),
  (12, 174, 193, 1, 0, 10134, 10136, 150, 1015),
  (12, 178, 196, 1, 0, 11020, 11022, 179, 1015),
  (12, 181, 199, 1, 0, 10189, 10191, 163, 1015),
  (12, 188, 203, 1, 0, 10201, 10203, 166, 1015),
  (12, 192, 204, 1, 0, 10205, 10207, 167, 1015),
  (12, 203, 202, 1, 0, 10154, 10156, 155, 1015),
  (12, 206, 206, 0, 0, 10216, 10217, 0, 1015),
  (12, 210, 189, 1, 0, 10219, 10221, 169, 1015),
  (12, 214, 192, 1, 0, 10227, 10229, 171, 1015),
  (12, 217, 191, 1, 0, 10126, 10128, 148, 1015),
  (12, 221, 190, 1, 0, 10130, 10132, 149, 1015),
  (12, 224, 208, 1, 0, 10231, 10233, 172, 1015),
  (12, 227, 195, 1, 0, 11007, 11009, 176, 1015),
  (12, 231, 194, 1, 0, 10138, 10140, 151, 1015),
  (12, 234, 210, 1, 0, 10239, 11001, 174, 1015),
  (12, 237, 211, 1, 0, 11003, 11005, 175, 1015),
  (12, 243, 213, 1, 0, 11012, 11014, 177, 1015),
  (12, 247, 197, 1, 0, 11016, 11018, 178, 1015),
  (12, 250, 198, 1, 0, 11024, 11026, 180, 1015),
  (12, 253, 205, 1, 0, 10197, 10199, 165, 1015),
  (12, 257, 207, 1, 0, 10209, 10211, 168, 1015),
  (12, 261, 209, 1, 0, 10223, 10225, 170, 1015),
  (12, 264, 212, 1, 0, 10235, 10237, 173, 1015),
  (12, 291, 220, 1, 0, 10142, 10144, 152, 1015),
  (12, 294, 215, 1, 0, 10150, 10152, 154, 1015),
  (12, 300, 217, 1, 0, 10158, 10160, 156, 1015),
  (12, 302, 216, 1, 0, 10162, 10164, 157, 1015),
  (12, 305, 218, 1, 0, 10166, 10168, 158, 1015),
  (12, 315, 201, 0, 0, 10182, 10183, 0, 1015),
  (12, 318, 200, 1, 0, 10185, 10187, 162, 1015),
  (12, 321, 214, 1, 0, 10193, 10195, 164, 1015),
  (12, 324, 222, 1, 0, 10174, 10176, 160, 1015),
  (12, 327, 223, 1, 0, 10178, 10180, 161, 1015),
  (12, 330, 187, 1, 0, 10114, 10116, 145, 1015),
  (12, 334, 219, 1, 0, 10118, 10120, 146, 1015),
  (12, 337, 221, 1, 0, 10146, 10148, 153, 1015),
  (12, 340, 224, 1, 0, 10170, 10172, 159, 1015),
  (13, 73, 230, 1, 0, 9090, 9092, 97, 1014),
  (13, 83, 233, 1, 0, 9126, 9128, 104, 1014),
  (13, 102, 237, 1, 0, 9078, 9080, 94, 1014),
  (13, 106, 238, 1, 0, 9074, 9076, 93, 1014),
  (13, 113, 241, 1, 0, 9082, 9084, 95, 1014),
  (13, 117, 231, 1, 0, 9086, 9088, 96, 1014),
  (13, 124, 229, 0, 0, 9094, 9095, 0, 1014),
  (13, 128, 239, 1, 0, 9097, 9099, 98, 1014),
  (13, 138, 240, 1, 0, 9105, 9107, 99, 1014),
  (13, 141, 236, 1, 0, 9110, 9112, 100, 1014),
  (13, 148, 242, 1, 0, 9070, 9072, 92, 1014),
  (13, 151, 243, 1, 0, 9114, 9116, 101, 1014),
  (13, 154, 232, 1, 0, 9118, 9120, 102, 1014),
  (17, 304, 319, 0, 0, 3161, 2027, 0, 1008),
  (17, 339, 327, 0, 0, 6069, 6070, 0, 1012),
  (17, 343, 325, 0, 0, 6072, 6073, 0, 1012)]
def zMLK : List (Nat × Nat × Nat × Nat × Nat × Nat × Nat × Nat × Nat) := zMLK_0 ++ zMLK_1 ++ zMLK_2 ++ zMLK_3
def zCIs_0 : List (Nat × Nat × Int32 × Nat) := [(4, 117, 160000, 5071),
  (14, 33, 389120, 6216),
  (14, 52, 131072, 6217),
  (12, 62, 70000, 7085),
  (12, 78, 700000, 7086)]
def zCIs : List (Nat × Nat × Int32 × Nat) := zCIs_0
def zCLs_0 : List (Nat × Nat × Int64 × Nat) := [(3, 55, 2, 3034),
  (3, 57, 4611686018427387904, 3035),
  (1, 30, -9223372036854775808, 3055),
  (8, 114, 2147483647, 3123),
  (8, 110, 200, 3124),
  (8, 116, -1, 3133),
  (2, 101, 24, 4007),
  (2, 103, 64, 4012),
  (2, 105, 121, 4013),
  (2, 107, 127, 4014),
  (2, 109, 1280, 4015),
  (2, 111, 1400, 4016),
  (2, 69, -1, 4029),
  (2, 117, 1273, 4039),
  (2, 119, 200, 4044),
  (9, 132, 255, 4097),
  (9, 138, -4611686018427387904, 4106),
  (9, 77, 4611686018427387904, 4107),
  (1, 40, 4611686018427387904, 4184),
  (0, 78, -1, 5186),
  (0, 80, -9223372036854775808, 5187),
  (0, 140, 127, 6010),
  (11, 243, -1, 6137),
  (14, 213, 2, 9032),
  (14, 215, 4611686018427387904, 9033),
  (13, 109, 2147483647, 9101),
  (13, 132, 200, 9102),
  (13, 134, 32, 9103),
  (13, 136, 2, 9104),
  (13, 111, -1, 9109),
  (14, 301, 24, 9154),
  (14, 303, 256, 9155),
  (14, 305, 65536, 9156),
  (14, 307, 4294967296, 9157),
  (14, 309, 121, 9162),
  (14, 311, 127, 9163),
  (14, 313, 1280, 9164),
  (14, 315, 1400, 9165),
  (14, 317, 64, 9166),
  (14, 328, -1, 9167),
  (14, 330, 128, 9168),
  (14, 332, 1273, 9169),
  (14, 334, 1000, 9170),
  (14, 344, 255, 9199),
  (14, 352, -9223372036854775808, 9208),
  (14, 360, 9223372036854775807, 9209),
  (14, 362, -4611686018427387904, 9210),
  (14, 400, 4611686018427387905, 10005),
  (12, 131, 200, 10088),
  (12, 133, 31, 10089),
  (12, 156, 64, 10105),
  (12, 195, -1, 10213),
  (12, 199, -9223372036854775808, 10214),
  (12, 201, 9223372036854775807, 10215),
  (12, 241, 127, 11011),
  (15, 27, 4294967295, 11088)]
def zCLs : List (Nat × Nat × Int64 × Nat) := zCLs_0
def zKLs_0 : List (Nat × Nat × Nat × Nat × Nat × Nat) := [(15, 8, 11, 1023, 1024, 1001),
  (11, 7, 5, 1031, 1032, 1002),
  (11, 16, 2, 1086, 1087, 1003),
  (11, 25, 8, 1129, 1130, 1004),
  (11, 32, 9, 1177, 1178, 1005),
  (9, 24, 1, 1183, 1185, 1006),
  (11, 45, 3, 2024, 2025, 1007),
  (3, 11, 6, 2036, 3064, 1016),
  (3, 28, 1, 2038, 1185, 1006),
  (11, 63, 4, 2090, 2091, 1009),
  (4, 38, 10, 2096, 2097, 1010),
  (4, 47, 0, 2138, 2139, 1011),
  (11, 70, 7, 2213, 3150, 1017),
  (8, 9, 7, 3149, 3150, 1017),
  (1, 10, 1, 6060, 1185, 1006),
  (15, 24, 14, 6210, 6211, 1013),
  (14, 141, 13, 6218, 6219, 1014),
  (14, 148, 12, 7079, 7080, 1015)]
def zKLs : List (Nat × Nat × Nat × Nat × Nat × Nat) := zKLs_0
def zKQs_0 : List (Nat × Nat × Nat × Nat × Nat) := [(9, 24, 19, 1183, 1184),
  (3, 11, 20, 2036, 2037),
  (3, 28, 19, 2038, 1184),
  (11, 70, 21, 2213, 2214),
  (8, 9, 21, 3149, 2214),
  (1, 10, 19, 6060, 1184)]
def zKQs : List (Nat × Nat × Nat × Nat × Nat) := zKQs_0
def zKAs_0 : List (Nat × Nat × Nat × Nat) := [(17, 311, 15, 3160),
  (17, 320, 17, 3172),
  (17, 317, 16, 3180)]
def zKAs : List (Nat × Nat × Nat × Nat) := zKAs_0
def zLY_0 : List (List Nat) := [[2148, 2150, 2152],
  [1206, 1208, 1210, 1212],
  [1106, 1108, 1110, 1112, 1114, 1116, 1118, 1120, 1122, 1124, 1126],
  [2061, 2063, 2065, 2067, 2069, 2071, 2073, 2075, 2077, 2079, 2081, 2083, 2085, 2087],
  [2176, 2178, 2180, 2182, 2184, 2186, 2188, 2190, 2192, 2194, 2196, 2198, 2200, 2202, 2204, 2206, 2208, 2210],
  [1064, 1066, 1068, 1070, 1072, 1074, 1076, 1078, 1080],
  [3083, 3085, 3087, 3089, 3091],
  [3200, 3202, 3204, 3206, 3208, 3210, 3212],
  [1150, 1152, 1154, 1156, 1158, 1160, 1162, 1164, 1166, 1168, 1170, 1172, 1174],
  [1235, 1237, 1239, 2001, 2003, 2005, 2007, 2009, 2011, 2013, 2015, 2017, 2019, 2021],
  [2119, 2121, 2123, 2125, 2127, 2129, 2131, 2133, 2135],
  [2231, 2233, 2235, 2237, 2239, 3001, 3003, 3005, 3007, 3009, 3011, 3013, 3015],
  [7153, 7155, 7157, 7159, 7161, 7163, 7165, 7167, 7169, 7171, 7173, 7175, 7177, 7179, 7181, 7183, 7185, 7187, 7189, 7191, 7193, 7195, 7197, 7199, 7201, 7203, 7205, 7207, 7209, 7211, 7213, 7215, 7217, 7219, 7221, 7223, 7225, 7227, 7229, 7231, 7233, 7235, 7237, 7239, 8001, 8003, 8005, 8007, 8009, 8011, 8013, 8015, 8017, 8019, 8021, 8023, 8025, 8027],
  [7021, 7023, 7025, 7027, 7029, 7031, 7033, 7035, 7037, 7039, 7041, 7043, 7045, 7047, 7049, 7051, 7053, 7055, 7057, 7059, 7061, 7063, 7065, 7067, 7069, 7071, 7073, 7075],
  [8105, 8107, 8109, 8111, 8113, 8115, 8117, 8119, 8121, 8123, 8125, 8127, 8129, 8131, 8133, 8135, 8137, 8139, 8141, 8143, 8145, 8147, 8149, 8151, 8153, 8155, 8157, 8159, 8161, 8163, 8165, 8167, 8169, 8171, 8173, 8175, 8177, 8179, 8181, 8183, 8185, 8187, 8189, 8191, 8193, 8195, 8197, 8199, 8201, 8203, 8205, 8207, 8209, 8211, 8213, 8215, 8217, 8219, 8221, 8223, 8225, 8227, 8229, 8231, 8233, 8235, 8237, 8239, 9001, 9003, 9005, 9007, 9009, 9011, 9013]]
def zLY : List (List Nat) := zLY_0
def zOIs : List (Nat × Nat × Nat) := [(11, 1, 1028), (5, 7, 1036), (2, 3, 1091), (8, 3, 1134), (9, 3, 1182), (1, 3, 1189), (3, 3, 2035), (4, 5, 2095), (10, 7, 2101), (0, 3, 2143), (6, 3, 3068), (7, 1, 3184), (14, 1, 6215), (13, 3, 6223), (12, 3, 7084)]
def zACs : List (Nat × Nat × Nat) := [(17, 150, 3162), (1, 42, 4185), (5, 51, 5008), (11, 303, 5034), (4, 72, 5053)]
def zLCs : List (Nat × Nat × Nat × Nat × Nat) := [(15, 66, 165, 41, 6141)]
def zCNs : List (Nat × Nat × Nat × Nat) := [(17, 310, 15, 3154), (17, 319, 17, 3168), (17, 316, 16, 3176)]
