theorem zK_iteP {tg : Nat → List zO} {rest : List zO} {Q : Option Value → zS → Prop} {o : zO} {c : Prop} {d : Decidable c} {x y : Option zR} : zK tg rest Q o (@ite _ c d x y) = @ite Prop c d (zK tg rest Q o x) (zK tg rest Q o y) := by
  by_cases h : c
  · rw [if_pos h, if_pos h]
  · rw [if_neg h, if_neg h]
theorem iteP {c : Prop} {d : Decidable c} {A B : Prop} : @ite Prop c d A B = ((c → A) ∧ (¬ c → B)) := by
  apply propext
  by_cases h : c
  · rw [if_pos h]
    exact ⟨fun x => ⟨fun _ => x, fun n => absurd h n⟩, fun x => x.1 h⟩
  · rw [if_neg h]
    exact ⟨fun x => ⟨fun y => absurd y h, fun _ => x⟩, fun x => x.2 h⟩
def fPs : List (Nat × Nat × Option Nat) := [(11, 0, some 37), (11, 1, some 290), (11, 2, some 424), (11, 3, some 649), (11, 4, some 2115), (11, 5, some 2532), (11, 6, some 3061), (11, 7, some 3088), (37, 0, some 79), (37, 1, some 112), (37, 2, some 144), (37, 3, some 176), (37, 4, some 209), (37, 5, some 239), (37, 6, some 272), (290, 0, some 37), (290, 1, some 336), (290, 2, some 368), (290, 3, some 400), (424, 0, some 463), (424, 1, some 497), (424, 2, some 528), (424, 3, some 560), (424, 4, some 592), (424, 5, some 624), (649, 0, some 37), (649, 1, some 336), (649, 2, some 688), (649, 3, some 720), (649, 4, some 752), (649, 5, some 784), (649, 6, some 819), (649, 7, some 848), (649, 8, some 880), (649, 9, some 897), (649, 10, some 1040), (649, 11, some 1072), (819, 0, some 1089), (819, 1, some 1217), (819, 2, some 1345), (819, 3, some 1473), (819, 4, some 1601), (819, 5, some 1729), (819, 6, some 1857), (819, 7, some 1985), (897, 0, some 944), (897, 1, some 977), (897, 2, some 1009), (1089, 0, some 1136), (1089, 1, some 1169), (1089, 2, some 1201), (1217, 0, some 1264), (1217, 1, some 1297), (1217, 2, some 1329), (1345, 0, some 1392), (1345, 1, some 1425), (1345, 2, some 1457), (1473, 0, some 1520), (1473, 1, some 1553), (1473, 2, some 1585), (1601, 0, some 1648), (1601, 1, some 1681), (1601, 2, some 1713), (1729, 0, some 1776), (1729, 1, some 1809), (1729, 2, some 1841), (1857, 0, some 1904), (1857, 1, some 1937), (1857, 2, some 1969), (1985, 0, some 2032), (1985, 1, some 2065), (1985, 2, some 2097), (2115, 0, some 2164), (2115, 9, some 2193), (2115, 10, some 2224), (2115, 11, some 2256), (2115, 12, some 2273), (2115, 13, some 2401), (2273, 0, some 2320), (2273, 1, some 2353), (2273, 2, some 2385), (2401, 0, some 2448), (2401, 1, some 2481), (2401, 2, some 2513), (2532, 0, some 37), (2532, 1, some 2762), (2532, 2, some 2976), (2532, 3, some 2575), (2532, 4, some 2609), (2532, 5, some 2640), (2532, 6, some 2671), (2532, 7, some 2704), (2532, 8, some 2736), (2762, 0, some 37), (2762, 1, some 2799), (2762, 2, some 2833), (2762, 3, some 2864), (2762, 4, some 2896), (2762, 6, some 2928), (2762, 7, some 2960), (2976, 0, some 37), (2976, 1, some 2762), (2976, 2, some 3024), (3118, 1, some 3151), (3118, 4, some 3184), (3118, 5, some 3216), (3118, 6, some 3248), (3118, 7, some 3280), (3118, 8, some 3312), (3118, 9, some 3345), (3118, 10, some 3375), (3118, 14, some 3408), (3118, 15, some 3440), (3118, 16, some 3472), (3118, 17, some 3505), (3118, 18, some 3537), (3118, 19, some 3567), (3118, 20, some 3600), (3118, 21, some 3632), (3118, 22, some 3664), (3118, 25, some 3697), (3118, 26, some 3728), (3118, 27, some 3760), (3118, 39, some 3792), (3118, 40, some 3825), (3118, 41, some 3856), (3118, 42, some 3888), (3118, 43, some 3920), (3118, 44, some 3952), (3118, 45, some 3984), (3118, 46, some 4017), (3118, 50, some 4048), (3118, 51, some 4080), (3118, 53, some 4112), (3118, 56, some 4144), (3118, 57, some 4177), (3118, 58, some 4209), (3118, 59, some 4241), (3118, 60, some 4273), (3118, 61, some 4301), (3118, 62, some 4908), (3118, 64, some 6128), (3118, 65, some 6160), (3118, 67, some 6192), (3118, 68, some 6225), (3118, 69, some 6256), (3118, 70, some 6288), (3118, 71, some 6320), (3118, 72, some 6352), (3118, 73, some 6383), (4301, 1, some 4338), (4301, 2, some 4368), (4301, 3, some 4401), (4301, 4, some 4432), (4301, 5, some 4464), (4301, 6, some 4495), (4301, 8, some 4528), (4301, 10, some 4559), (4301, 15, some 4592), (4301, 16, some 4624), (4301, 17, some 4656), (4301, 19, some 4688), (4301, 20, some 4720), (4301, 21, some 4752), (4301, 23, some 4784), (4301, 25, some 4816), (4301, 26, some 4848), (4301, 27, some 4880), (4908, 1, some 4944), (4908, 2, some 4977), (4908, 3, some 5008), (4908, 4, some 5040), (4908, 5, some 5072), (4908, 6, some 5103), (4908, 8, some 5136), (4908, 10, some 5168), (4908, 11, some 5201), (4908, 12, some 5232), (4908, 13, some 5264), (4908, 14, some 5296), (4908, 15, some 5328), (4908, 16, some 5360), (4908, 17, some 5392), (4908, 18, some 5424), (4908, 20, some 5455), (4908, 22, some 5488), (4908, 23, some 5521), (4908, 24, some 5552), (4908, 25, some 5584), (4908, 27, some 5616), (4908, 29, some 5648), (4908, 30, some 5680), (4908, 32, some 5712), (4908, 33, some 5744), (4908, 34, some 5776), (4908, 35, some 5808), (4908, 38, some 5840), (4908, 39, some 5872), (4908, 40, some 5905), (4908, 41, some 5936), (4908, 42, some 5968), (4908, 43, some 5999), (4908, 54, some 6032), (4908, 55, some 6064), (4908, 57, some 6096)]
/-- what stays as the constructors made it -/
def zStat (P : zP) (N : Nat → Nat) : Prop := (∀ e ∈ fPs, P e.1 e.2.1 = e.2.2) ∧ ∀ e ∈ fN, N e.1 = e.2
section
variable {P : zP} {N : Nat → Nat}
theorem sP_11_0 (h : zStat P N) : P 11 0 = some 37 := h.1 (11, 0, some 37) (by decide +kernel)
theorem sP_11_1 (h : zStat P N) : P 11 1 = some 290 := h.1 (11, 1, some 290) (by decide +kernel)
theorem sP_11_2 (h : zStat P N) : P 11 2 = some 424 := h.1 (11, 2, some 424) (by decide +kernel)
theorem sP_11_3 (h : zStat P N) : P 11 3 = some 649 := h.1 (11, 3, some 649) (by decide +kernel)
theorem sP_11_4 (h : zStat P N) : P 11 4 = some 2115 := h.1 (11, 4, some 2115) (by decide +kernel)
theorem sP_11_5 (h : zStat P N) : P 11 5 = some 2532 := h.1 (11, 5, some 2532) (by decide +kernel)
theorem sP_11_6 (h : zStat P N) : P 11 6 = some 3061 := h.1 (11, 6, some 3061) (by decide +kernel)
theorem sP_11_7 (h : zStat P N) : P 11 7 = some 3088 := h.1 (11, 7, some 3088) (by decide +kernel)
theorem sP_37_0 (h : zStat P N) : P 37 0 = some 79 := h.1 (37, 0, some 79) (by decide +kernel)
theorem sP_37_1 (h : zStat P N) : P 37 1 = some 112 := h.1 (37, 1, some 112) (by decide +kernel)
theorem sP_37_2 (h : zStat P N) : P 37 2 = some 144 := h.1 (37, 2, some 144) (by decide +kernel)
theorem sP_37_3 (h : zStat P N) : P 37 3 = some 176 := h.1 (37, 3, some 176) (by decide +kernel)
theorem sP_37_4 (h : zStat P N) : P 37 4 = some 209 := h.1 (37, 4, some 209) (by decide +kernel)
theorem sP_37_5 (h : zStat P N) : P 37 5 = some 239 := h.1 (37, 5, some 239) (by decide +kernel)
theorem sP_37_6 (h : zStat P N) : P 37 6 = some 272 := h.1 (37, 6, some 272) (by decide +kernel)
theorem sP_290_0 (h : zStat P N) : P 290 0 = some 37 := h.1 (290, 0, some 37) (by decide +kernel)
theorem sP_290_1 (h : zStat P N) : P 290 1 = some 336 := h.1 (290, 1, some 336) (by decide +kernel)
theorem sP_290_2 (h : zStat P N) : P 290 2 = some 368 := h.1 (290, 2, some 368) (by decide +kernel)
theorem sP_290_3 (h : zStat P N) : P 290 3 = some 400 := h.1 (290, 3, some 400) (by decide +kernel)
theorem sP_424_0 (h : zStat P N) : P 424 0 = some 463 := h.1 (424, 0, some 463) (by decide +kernel)
theorem sP_424_1 (h : zStat P N) : P 424 1 = some 497 := h.1 (424, 1, some 497) (by decide +kernel)
theorem sP_424_2 (h : zStat P N) : P 424 2 = some 528 := h.1 (424, 2, some 528) (by decide +kernel)
theorem sP_424_3 (h : zStat P N) : P 424 3 = some 560 := h.1 (424, 3, some 560) (by decide +kernel)
theorem sP_424_4 (h : zStat P N) : P 424 4 = some 592 := h.1 (424, 4, some 592) (by decide +kernel)
theorem sP_424_5 (h : zStat P N) : P 424 5 = some 624 := h.1 (424, 5, some 624) (by decide +kernel)
theorem sP_649_0 (h : zStat P N) : P 649 0 = some 37 := h.1 (649, 0, some 37) (by decide +kernel)
theorem sP_649_1 (h : zStat P N) : P 649 1 = some 336 := h.1 (649, 1, some 336) (by decide +kernel)
theorem sP_649_2 (h : zStat P N) : P 649 2 = some 688 := h.1 (649, 2, some 688) (by decide +kernel)
theorem sP_649_3 (h : zStat P N) : P 649 3 = some 720 := h.1 (649, 3, some 720) (by decide +kernel)
theorem sP_649_4 (h : zStat P N) : P 649 4 = some 752 := h.1 (649, 4, some 752) (by decide +kernel)
theorem sP_649_5 (h : zStat P N) : P 649 5 = some 784 := h.1 (649, 5, some 784) (by decide +kernel)
theorem sP_649_6 (h : zStat P N) : P 649 6 = some 819 := h.1 (649, 6, some 819) (by decide +kernel)
theorem sP_649_7 (h : zStat P N) : P 649 7 = some 848 := h.1 (649, 7, some 848) (by decide +kernel)
theorem sP_649_8 (h : zStat P N) : P 649 8 = some 880 := h.1 (649, 8, some 880) (by decide +kernel)
theorem sP_649_9 (h : zStat P N) : P 649 9 = some 897 := h.1 (649, 9, some 897) (by decide +kernel)
theorem sP_649_10 (h : zStat P N) : P 649 10 = some 1040 := h.1 (649, 10, some 1040) (by decide +kernel)
theorem sP_649_11 (h : zStat P N) : P 649 11 = some 1072 := h.1 (649, 11, some 1072) (by decide +kernel)
theorem sP_819_0 (h : zStat P N) : P 819 0 = some 1089 := h.1 (819, 0, some 1089) (by decide +kernel)
theorem sP_819_1 (h : zStat P N) : P 819 1 = some 1217 := h.1 (819, 1, some 1217) (by decide +kernel)
theorem sP_819_2 (h : zStat P N) : P 819 2 = some 1345 := h.1 (819, 2, some 1345) (by decide +kernel)
theorem sP_819_3 (h : zStat P N) : P 819 3 = some 1473 := h.1 (819, 3, some 1473) (by decide +kernel)
theorem sP_819_4 (h : zStat P N) : P 819 4 = some 1601 := h.1 (819, 4, some 1601) (by decide +kernel)
theorem sP_819_5 (h : zStat P N) : P 819 5 = some 1729 := h.1 (819, 5, some 1729) (by decide +kernel)
theorem sP_819_6 (h : zStat P N) : P 819 6 = some 1857 := h.1 (819, 6, some 1857) (by decide +kernel)
theorem sP_819_7 (h : zStat P N) : P 819 7 = some 1985 := h.1 (819, 7, some 1985) (by decide +kernel)
theorem sP_897_0 (h : zStat P N) : P 897 0 = some 944 := h.1 (897, 0, some 944) (by decide +kernel)
theorem sP_897_1 (h : zStat P N) : P 897 1 = some 977 := h.1 (897, 1, some 977) (by decide +kernel)
theorem sP_897_2 (h : zStat P N) : P 897 2 = some 1009 := h.1 (897, 2, some 1009) (by decide +kernel)
theorem sP_1089_0 (h : zStat P N) : P 1089 0 = some 1136 := h.1 (1089, 0, some 1136) (by decide +kernel)
theorem sP_1089_1 (h : zStat P N) : P 1089 1 = some 1169 := h.1 (1089, 1, some 1169) (by decide +kernel)
theorem sP_1089_2 (h : zStat P N) : P 1089 2 = some 1201 := h.1 (1089, 2, some 1201) (by decide +kernel)
theorem sP_1217_0 (h : zStat P N) : P 1217 0 = some 1264 := h.1 (1217, 0, some 1264) (by decide +kernel)
theorem sP_1217_1 (h : zStat P N) : P 1217 1 = some 1297 := h.1 (1217, 1, some 1297) (by decide +kernel)
theorem sP_1217_2 (h : zStat P N) : P 1217 2 = some 1329 := h.1 (1217, 2, some 1329) (by decide +kernel)
theorem sP_1345_0 (h : zStat P N) : P 1345 0 = some 1392 := h.1 (1345, 0, some 1392) (by decide +kernel)
theorem sP_1345_1 (h : zStat P N) : P 1345 1 = some 1425 := h.1 (1345, 1, some 1425) (by decide +kernel)
theorem sP_1345_2 (h : zStat P N) : P 1345 2 = some 1457 := h.1 (1345, 2, some 1457) (by decide +kernel)
theorem sP_1473_0 (h : zStat P N) : P 1473 0 = some 1520 := h.1 (1473, 0, some 1520) (by decide +kernel)
theorem sP_1473_1 (h : zStat P N) : P 1473 1 = some 1553 := h.1 (1473, 1, some 1553) (by decide +kernel)
theorem sP_1473_2 (h : zStat P N) : P 1473 2 = some 1585 := h.1 (1473, 2, some 1585) (by decide +kernel)
theorem sP_1601_0 (h : zStat P N) : P 1601 0 = some 1648 := h.1 (1601, 0, some 1648) (by decide +kernel)
theorem sP_1601_1 (h : zStat P N) : P 1601 1 = some 1681 := h.1 (1601, 1, some 1681) (by decide +kernel)
theorem sP_1601_2 (h : zStat P N) : P 1601 2 = some 1713 := h.1 (1601, 2, some 1713) (by decide +kernel)
theorem sP_1729_0 (h : zStat P N) : P 1729 0 = some 1776 := h.1 (1729, 0, some 1776) (by decide +kernel)
theorem sP_1729_1 (h : zStat P N) : P 1729 1 = some 1809 := h.1 (1729, 1, some 1809) (by decide +kernel)
theorem sP_1729_2 (h : zStat P N) : P 1729 2 = some 1841 := h.1 (1729, 2, some 1841) (by decide +kernel)
theorem sP_1857_0 (h : zStat P N) : P 1857 0 = some 1904 := h.1 (1857, 0, some 1904) (by decide +kernel)
theorem sP_1857_1 (h : zStat P N) : P 1857 1 = some 1937 := h.1 (1857, 1, some 1937) (by decide +kernel)
theorem sP_1857_2 (h : zStat P N) : P 1857 2 = some 1969 := h.1 (1857, 2, some 1969) (by decide +kernel)
theorem sP_1985_0 (h : zStat P N) : P 1985 0 = some 2032 := h.1 (1985, 0, some 2032) (by decide +kernel)
theorem sP_1985_1 (h : zStat P N) : P 1985 1 = some 2065 := h.1 (1985, 1, some 2065) (by decide +kernel)
theorem sP_1985_2 (h : zStat P N) : P 1985 2 = some 2097 := h.1 (1985, 2, some 2097) (by decide +kernel)
theorem sP_2115_0 (h : zStat P N) : P 2115 0 = some 2164 := h.1 (2115, 0, some 2164) (by decide +kernel)
theorem sP_2115_9 (h : zStat P N) : P 2115 9 = some 2193 := h.1 (2115, 9, some 2193) (by decide +kernel)
theorem sP_2115_10 (h : zStat P N) : P 2115 10 = some 2224 := h.1 (2115, 10, some 2224) (by decide +kernel)
theorem sP_2115_11 (h : zStat P N) : P 2115 11 = some 2256 := h.1 (2115, 11, some 2256) (by decide +kernel)
theorem sP_2115_12 (h : zStat P N) : P 2115 12 = some 2273 := h.1 (2115, 12, some 2273) (by decide +kernel)
theorem sP_2115_13 (h : zStat P N) : P 2115 13 = some 2401 := h.1 (2115, 13, some 2401) (by decide +kernel)
theorem sP_2273_0 (h : zStat P N) : P 2273 0 = some 2320 := h.1 (2273, 0, some 2320) (by decide +kernel)
theorem sP_2273_1 (h : zStat P N) : P 2273 1 = some 2353 := h.1 (2273, 1, some 2353) (by decide +kernel)
theorem sP_2273_2 (h : zStat P N) : P 2273 2 = some 2385 := h.1 (2273, 2, some 2385) (by decide +kernel)
theorem sP_2401_0 (h : zStat P N) : P 2401 0 = some 2448 := h.1 (2401, 0, some 2448) (by decide +kernel)
theorem sP_2401_1 (h : zStat P N) : P 2401 1 = some 2481 := h.1 (2401, 1, some 2481) (by decide +kernel)
theorem sP_2401_2 (h : zStat P N) : P 2401 2 = some 2513 := h.1 (2401, 2, some 2513) (by decide +kernel)
theorem sP_2532_0 (h : zStat P N) : P 2532 0 = some 37 := h.1 (2532, 0, some 37) (by decide +kernel)
theorem sP_2532_1 (h : zStat P N) : P 2532 1 = some 2762 := h.1 (2532, 1, some 2762) (by decide +kernel)
theorem sP_2532_2 (h : zStat P N) : P 2532 2 = some 2976 := h.1 (2532, 2, some 2976) (by decide +kernel)
theorem sP_2532_3 (h : zStat P N) : P 2532 3 = some 2575 := h.1 (2532, 3, some 2575) (by decide +kernel)
theorem sP_2532_4 (h : zStat P N) : P 2532 4 = some 2609 := h.1 (2532, 4, some 2609) (by decide +kernel)
theorem sP_2532_5 (h : zStat P N) : P 2532 5 = some 2640 := h.1 (2532, 5, some 2640) (by decide +kernel)
theorem sP_2532_6 (h : zStat P N) : P 2532 6 = some 2671 := h.1 (2532, 6, some 2671) (by decide +kernel)
theorem sP_2532_7 (h : zStat P N) : P 2532 7 = some 2704 := h.1 (2532, 7, some 2704) (by decide +kernel)
theorem sP_2532_8 (h : zStat P N) : P 2532 8 = some 2736 := h.1 (2532, 8, some 2736) (by decide +kernel)
theorem sP_2762_0 (h : zStat P N) : P 2762 0 = some 37 := h.1 (2762, 0, some 37) (by decide +kernel)
theorem sP_2762_1 (h : zStat P N) : P 2762 1 = some 2799 := h.1 (2762, 1, some 2799) (by decide +kernel)
theorem sP_2762_2 (h : zStat P N) : P 2762 2 = some 2833 := h.1 (2762, 2, some 2833) (by decide +kernel)
theorem sP_2762_3 (h : zStat P N) : P 2762 3 = some 2864 := h.1 (2762, 3, some 2864) (by decide +kernel)
theorem sP_2762_4 (h : zStat P N) : P 2762 4 = some 2896 := h.1 (2762, 4, some 2896) (by decide +kernel)
theorem sP_2762_6 (h : zStat P N) : P 2762 6 = some 2928 := h.1 (2762, 6, some 2928) (by decide +kernel)
theorem sP_2762_7 (h : zStat P N) : P 2762 7 = some 2960 := h.1 (2762, 7, some 2960) (by decide +kernel)
theorem sP_2976_0 (h : zStat P N) : P 2976 0 = some 37 := h.1 (2976, 0, some 37) (by decide +kernel)
theorem sP_2976_1 (h : zStat P N) : P 2976 1 = some 2762 := h.1 (2976, 1, some 2762) (by decide +kernel)
theorem sP_2976_2 (h : zStat P N) : P 2976 2 = some 3024 := h.1 (2976, 2, some 3024) (by decide +kernel)
theorem sP_3118_1 (h : zStat P N) : P 3118 1 = some 3151 := h.1 (3118, 1, some 3151) (by decide +kernel)
theorem sP_3118_4 (h : zStat P N) : P 3118 4 = some 3184 := h.1 (3118, 4, some 3184) (by decide +kernel)
theorem sP_3118_5 (h : zStat P N) : P 3118 5 = some 3216 := h.1 (3118, 5, some 3216) (by decide +kernel)
theorem sP_3118_6 (h : zStat P N) : P 3118 6 = some 3248 := h.1 (3118, 6, some 3248) (by decide +kernel)
theorem sP_3118_7 (h : zStat P N) : P 3118 7 = some 3280 := h.1 (3118, 7, some 3280) (by decide +kernel)
theorem sP_3118_8 (h : zStat P N) : P 3118 8 = some 3312 := h.1 (3118, 8, some 3312) (by decide +kernel)
theorem sP_3118_9 (h : zStat P N) : P 3118 9 = some 3345 := h.1 (3118, 9, some 3345) (by decide +kernel)
theorem sP_3118_10 (h : zStat P N) : P 3118 10 = some 3375 := h.1 (3118, 10, some 3375) (by decide +kernel)
theorem sP_3118_14 (h : zStat P N) : P 3118 14 = some 3408 := h.1 (3118, 14, some 3408) (by decide +kernel)
theorem sP_3118_15 (h : zStat P N) : P 3118 15 = some 3440 := h.1 (3118, 15, some 3440) (by decide +kernel)
theorem sP_3118_16 (h : zStat P N) : P 3118 16 = some 3472 := h.1 (3118, 16, some 3472) (by decide +kernel)
theorem sP_3118_17 (h : zStat P N) : P 3118 17 = some 3505 := h.1 (3118, 17, some 3505) (by decide +kernel)
theorem sP_3118_18 (h : zStat P N) : P 3118 18 = some 3537 := h.1 (3118, 18, some 3537) (by decide +kernel)
theorem sP_3118_19 (h : zStat P N) : P 3118 19 = some 3567 := h.1 (3118, 19, some 3567) (by decide +kernel)
theorem sP_3118_20 (h : zStat P N) : P 3118 20 = some 3600 := h.1 (3118, 20, some 3600) (by decide +kernel)
theorem sP_3118_21 (h : zStat P N) : P 3118 21 = some 3632 := h.1 (3118, 21, some 3632) (by decide +kernel)
theorem sP_3118_22 (h : zStat P N) : P 3118 22 = some 3664 := h.1 (3118, 22, some 3664) (by decide +kernel)
theorem sP_3118_25 (h : zStat P N) : P 3118 25 = some 3697 := h.1 (3118, 25, some 3697) (by decide +kernel)
theorem sP_3118_26 (h : zStat P N) : P 3118 26 = some 3728 := h.1 (3118, 26, some 3728) (by decide +kernel)
theorem sP_3118_27 (h : zStat P N) : P 3118 27 = some 3760 := h.1 (3118, 27, some 3760) (by decide +kernel)
theorem sP_3118_39 (h : zStat P N) : P 3118 39 = some 3792 := h.1 (3118, 39, some 3792) (by decide +kernel)
theorem sP_3118_40 (h : zStat P N) : P 3118 40 = some 3825 := h.1 (3118, 40, some 3825) (by decide +kernel)
theorem sP_3118_41 (h : zStat P N) : P 3118 41 = some 3856 := h.1 (3118, 41, some 3856) (by decide +kernel)
theorem sP_3118_42 (h : zStat P N) : P 3118 42 = some 3888 := h.1 (3118, 42, some 3888) (by decide +kernel)
theorem sP_3118_43 (h : zStat P N) : P 3118 43 = some 3920 := h.1 (3118, 43, some 3920) (by decide +kernel)
theorem sP_3118_44 (h : zStat P N) : P 3118 44 = some 3952 := h.1 (3118, 44, some 3952) (by decide +kernel)
theorem sP_3118_45 (h : zStat P N) : P 3118 45 = some 3984 := h.1 (3118, 45, some 3984) (by decide +kernel)
theorem sP_3118_46 (h : zStat P N) : P 3118 46 = some 4017 := h.1 (3118, 46, some 4017) (by decide +kernel)
theorem sP_3118_50 (h : zStat P N) : P 3118 50 = some 4048 := h.1 (3118, 50, some 4048) (by decide +kernel)
theorem sP_3118_51 (h : zStat P N) : P 3118 51 = some 4080 := h.1 (3118, 51, some 4080) (by decide +kernel)
theorem sP_3118_53 (h : zStat P N) : P 3118 53 = some 4112 := h.1 (3118, 53, some 4112) (by decide +kernel)
theorem sP_3118_56 (h : zStat P N) : P 3118 56 = some 4144 := h.1 (3118, 56, some 4144) (by decide +kernel)
theorem sP_3118_57 (h : zStat P N) : P 3118 57 = some 4177 := h.1 (3118, 57, some 4177) (by decide +kernel)
theorem sP_3118_58 (h : zStat P N) : P 3118 58 = some 4209 := h.1 (3118, 58, some 4209) (by decide +kernel)
theorem sP_3118_59 (h : zStat P N) : P 3118 59 = some 4241 := h.1 (3118, 59, some 4241) (by decide +kernel)
theorem sP_3118_60 (h : zStat P N) : P 3118 60 = some 4273 := h.1 (3118, 60, some 4273) (by decide +kernel)
theorem sP_3118_61 (h : zStat P N) : P 3118 61 = some 4301 := h.1 (3118, 61, some 4301) (by decide +kernel)
theorem sP_3118_62 (h : zStat P N) : P 3118 62 = some 4908 := h.1 (3118, 62, some 4908) (by decide +kernel)
theorem sP_3118_64 (h : zStat P N) : P 3118 64 = some 6128 := h.1 (3118, 64, some 6128) (by decide +kernel)
theorem sP_3118_65 (h : zStat P N) : P 3118 65 = some 6160 := h.1 (3118, 65, some 6160) (by decide +kernel)
theorem sP_3118_67 (h : zStat P N) : P 3118 67 = some 6192 := h.1 (3118, 67, some 6192) (by decide +kernel)
theorem sP_3118_68 (h : zStat P N) : P 3118 68 = some 6225 := h.1 (3118, 68, some 6225) (by decide +kernel)
theorem sP_3118_69 (h : zStat P N) : P 3118 69 = some 6256 := h.1 (3118, 69, some 6256) (by decide +kernel)
theorem sP_3118_70 (h : zStat P N) : P 3118 70 = some 6288 := h.1 (3118, 70, some 6288) (by decide +kernel)
theorem sP_3118_71 (h : zStat P N) : P 3118 71 = some 6320 := h.1 (3118, 71, some 6320) (by decide +kernel)
theorem sP_3118_72 (h : zStat P N) : P 3118 72 = some 6352 := h.1 (3118, 72, some 6352) (by decide +kernel)
theorem sP_3118_73 (h : zStat P N) : P 3118 73 = some 6383 := h.1 (3118, 73, some 6383) (by decide +kernel)
theorem sP_4301_1 (h : zStat P N) : P 4301 1 = some 4338 := h.1 (4301, 1, some 4338) (by decide +kernel)
theorem sP_4301_2 (h : zStat P N) : P 4301 2 = some 4368 := h.1 (4301, 2, some 4368) (by decide +kernel)
theorem sP_4301_3 (h : zStat P N) : P 4301 3 = some 4401 := h.1 (4301, 3, some 4401) (by decide +kernel)
theorem sP_4301_4 (h : zStat P N) : P 4301 4 = some 4432 := h.1 (4301, 4, some 4432) (by decide +kernel)
theorem sP_4301_5 (h : zStat P N) : P 4301 5 = some 4464 := h.1 (4301, 5, some 4464) (by decide +kernel)
theorem sP_4301_6 (h : zStat P N) : P 4301 6 = some 4495 := h.1 (4301, 6, some 4495) (by decide +kernel)
theorem sP_4301_8 (h : zStat P N) : P 4301 8 = some 4528 := h.1 (4301, 8, some 4528) (by decide +kernel)
theorem sP_4301_10 (h : zStat P N) : P 4301 10 = some 4559 := h.1 (4301, 10, some 4559) (by decide +kernel)
theorem sP_4301_15 (h : zStat P N) : P 4301 15 = some 4592 := h.1 (4301, 15, some 4592) (by decide +kernel)
theorem sP_4301_16 (h : zStat P N) : P 4301 16 = some 4624 := h.1 (4301, 16, some 4624) (by decide +kernel)
theorem sP_4301_17 (h : zStat P N) : P 4301 17 = some 4656 := h.1 (4301, 17, some 4656) (by decide +kernel)
theorem sP_4301_19 (h : zStat P N) : P 4301 19 = some 4688 := h.1 (4301, 19, some 4688) (by decide +kernel)
theorem sP_4301_20 (h : zStat P N) : P 4301 20 = some 4720 := h.1 (4301, 20, some 4720) (by decide +kernel)
theorem sP_4301_21 (h : zStat P N) : P 4301 21 = some 4752 := h.1 (4301, 21, some 4752) (by decide +kernel)
theorem sP_4301_23 (h : zStat P N) : P 4301 23 = some 4784 := h.1 (4301, 23, some 4784) (by decide +kernel)
theorem sP_4301_25 (h : zStat P N) : P 4301 25 = some 4816 := h.1 (4301, 25, some 4816) (by decide +kernel)
theorem sP_4301_26 (h : zStat P N) : P 4301 26 = some 4848 := h.1 (4301, 26, some 4848) (by decide +kernel)
theorem sP_4301_27 (h : zStat P N) : P 4301 27 = some 4880 := h.1 (4301, 27, some 4880) (by decide +kernel)
theorem sP_4908_1 (h : zStat P N) : P 4908 1 = some 4944 := h.1 (4908, 1, some 4944) (by decide +kernel)
theorem sP_4908_2 (h : zStat P N) : P 4908 2 = some 4977 := h.1 (4908, 2, some 4977) (by decide +kernel)
theorem sP_4908_3 (h : zStat P N) : P 4908 3 = some 5008 := h.1 (4908, 3, some 5008) (by decide +kernel)
theorem sP_4908_4 (h : zStat P N) : P 4908 4 = some 5040 := h.1 (4908, 4, some 5040) (by decide +kernel)
theorem sP_4908_5 (h : zStat P N) : P 4908 5 = some 5072 := h.1 (4908, 5, some 5072) (by decide +kernel)
theorem sP_4908_6 (h : zStat P N) : P 4908 6 = some 5103 := h.1 (4908, 6, some 5103) (by decide +kernel)
theorem sP_4908_8 (h : zStat P N) : P 4908 8 = some 5136 := h.1 (4908, 8, some 5136) (by decide +kernel)
theorem sP_4908_10 (h : zStat P N) : P 4908 10 = some 5168 := h.1 (4908, 10, some 5168) (by decide +kernel)
theorem sP_4908_11 (h : zStat P N) : P 4908 11 = some 5201 := h.1 (4908, 11, some 5201) (by decide +kernel)
theorem sP_4908_12 (h : zStat P N) : P 4908 12 = some 5232 := h.1 (4908, 12, some 5232) (by decide +kernel)
theorem sP_4908_13 (h : zStat P N) : P 4908 13 = some 5264 := h.1 (4908, 13, some 5264) (by decide +kernel)
theorem sP_4908_14 (h : zStat P N) : P 4908 14 = some 5296 := h.1 (4908, 14, some 5296) (by decide +kernel)
theorem sP_4908_15 (h : zStat P N) : P 4908 15 = some 5328 := h.1 (4908, 15, some 5328) (by decide +kernel)
theorem sP_4908_16 (h : zStat P N) : P 4908 16 = some 5360 := h.1 (4908, 16, some 5360) (by decide +kernel)
theorem sP_4908_17 (h : zStat P N) : P 4908 17 = some 5392 := h.1 (4908, 17, some 5392) (by decide +kernel)
theorem sP_4908_18 (h : zStat P N) : P 4908 18 = some 5424 := h.1 (4908, 18, some 5424) (by decide +kernel)
theorem sP_4908_20 (h : zStat P N) : P 4908 20 = some 5455 := h.1 (4908, 20, some 5455) (by decide +kernel)
theorem sP_4908_22 (h : zStat P N) : P 4908 22 = some 5488 := h.1 (4908, 22, some 5488) (by decide +kernel)
theorem sP_4908_23 (h : zStat P N) : P 4908 23 = some 5521 := h.1 (4908, 23, some 5521) (by decide +kernel)
theorem sP_4908_24 (h : zStat P N) : P 4908 24 = some 5552 := h.1 (4908, 24, some 5552) (by decide +kernel)
theorem sP_4908_25 (h : zStat P N) : P 4908 25 = some 5584 := h.1 (4908, 25, some 5584) (by decide +kernel)
theorem sP_4908_27 (h : zStat P N) : P 4908 27 = some 5616 := h.1 (4908, 27, some 5616) (by decide +kernel)
theorem sP_4908_29 (h : zStat P N) : P 4908 29 = some 5648 := h.1 (4908, 29, some 5648) (by decide +kernel)
theorem sP_4908_30 (h : zStat P N) : P 4908 30 = some 5680 := h.1 (4908, 30, some 5680) (by decide +kernel)
theorem sP_4908_32 (h : zStat P N) : P 4908 32 = some 5712 := h.1 (4908, 32, some 5712) (by decide +kernel)
theorem sP_4908_33 (h : zStat P N) : P 4908 33 = some 5744 := h.1 (4908, 33, some 5744) (by decide +kernel)
theorem sP_4908_34 (h : zStat P N) : P 4908 34 = some 5776 := h.1 (4908, 34, some 5776) (by decide +kernel)
theorem sP_4908_35 (h : zStat P N) : P 4908 35 = some 5808 := h.1 (4908, 35, some 5808) (by decide +kernel)
theorem sP_4908_38 (h : zStat P N) : P 4908 38 = some 5840 := h.1 (4908, 38, some 5840) (by decide +kernel)
theorem sP_4908_39 (h : zStat P N) : P 4908 39 = some 5872 := h.1 (4908, 39, some 5872) (by decide +kernel)
theorem sP_4908_40 (h : zStat P N) : P 4908 40 = some 5905 := h.1 (4908, 40, some 5905) (by decide +kernel)
theorem sP_4908_41 (h : zStat P N) : P 4908 41 = some 5936 := h.1 (4908, 41, some 5936) (by decide +kernel)
theorem sP_4908_42 (h : zStat P N) : P 4908 42 = some 5968 := h.1 (4908, 42, some 5968) (by decide +kernel)
theorem sP_4908_43 (h : zStat P N) : P 4908 43 = some 5999 := h.1 (4908, 43, some 5999) (by decide +kernel)
theorem sP_4908_54 (h : zStat P N) : P 4908 54 = some 6032 := h.1 (4908, 54, some 6032) (by decide +kernel)
theorem sP_4908_55 (h : zStat P N) : P 4908 55 = some 6064 := h.1 (4908, 55, some 6064) (by decide +kernel)
theorem sP_4908_57 (h : zStat P N) : P 4908 57 = some 6096 := h.1 (4908, 57, some 6096) (by decide +kernel)
theorem sN_79 (h : zStat P N) : N 79 = 3801 := h.2 (79, 3801) (by decide +kernel)
theorem sN_112 (h : zStat P N) : N 112 = 3801 := h.2 (112, 3801) (by decide +kernel)
theorem sN_144 (h : zStat P N) : N 144 = 3801 := h.2 (144, 3801) (by decide +kernel)
theorem sN_176 (h : zStat P N) : N 176 = 3801 := h.2 (176, 3801) (by decide +kernel)
theorem sN_209 (h : zStat P N) : N 209 = 3801 := h.2 (209, 3801) (by decide +kernel)
theorem sN_239 (h : zStat P N) : N 239 = 32384 := h.2 (239, 32384) (by decide +kernel)
theorem sN_272 (h : zStat P N) : N 272 = 12 := h.2 (272, 12) (by decide +kernel)
theorem sN_336 (h : zStat P N) : N 336 = 200 := h.2 (336, 200) (by decide +kernel)
theorem sN_368 (h : zStat P N) : N 368 = 12 := h.2 (368, 12) (by decide +kernel)
theorem sN_400 (h : zStat P N) : N 400 = 12 := h.2 (400, 12) (by decide +kernel)
theorem sN_463 (h : zStat P N) : N 463 = 200 := h.2 (463, 200) (by decide +kernel)
theorem sN_497 (h : zStat P N) : N 497 = 200 := h.2 (497, 200) (by decide +kernel)
theorem sN_528 (h : zStat P N) : N 528 = 200 := h.2 (528, 200) (by decide +kernel)
theorem sN_560 (h : zStat P N) : N 560 = 64 := h.2 (560, 64) (by decide +kernel)
theorem sN_592 (h : zStat P N) : N 592 = 64 := h.2 (592, 64) (by decide +kernel)
theorem sN_624 (h : zStat P N) : N 624 = 64 := h.2 (624, 64) (by decide +kernel)
theorem sN_688 (h : zStat P N) : N 688 = 8 := h.2 (688, 8) (by decide +kernel)
theorem sN_720 (h : zStat P N) : N 720 = 8 := h.2 (720, 8) (by decide +kernel)
theorem sN_752 (h : zStat P N) : N 752 = 8 := h.2 (752, 8) (by decide +kernel)
theorem sN_784 (h : zStat P N) : N 784 = 8 := h.2 (784, 8) (by decide +kernel)
theorem sN_819 (h : zStat P N) : N 819 = 8 := h.2 (819, 8) (by decide +kernel)
theorem sN_848 (h : zStat P N) : N 848 = 8 := h.2 (848, 8) (by decide +kernel)
theorem sN_880 (h : zStat P N) : N 880 = 8 := h.2 (880, 8) (by decide +kernel)
theorem sN_944 (h : zStat P N) : N 944 = 8 := h.2 (944, 8) (by decide +kernel)
theorem sN_977 (h : zStat P N) : N 977 = 8 := h.2 (977, 8) (by decide +kernel)
theorem sN_1009 (h : zStat P N) : N 1009 = 8 := h.2 (1009, 8) (by decide +kernel)
theorem sN_1040 (h : zStat P N) : N 1040 = 8 := h.2 (1040, 8) (by decide +kernel)
theorem sN_1072 (h : zStat P N) : N 1072 = 8 := h.2 (1072, 8) (by decide +kernel)
theorem sN_1136 (h : zStat P N) : N 1136 = 8 := h.2 (1136, 8) (by decide +kernel)
theorem sN_1169 (h : zStat P N) : N 1169 = 8 := h.2 (1169, 8) (by decide +kernel)
theorem sN_1201 (h : zStat P N) : N 1201 = 8 := h.2 (1201, 8) (by decide +kernel)
theorem sN_1264 (h : zStat P N) : N 1264 = 8 := h.2 (1264, 8) (by decide +kernel)
theorem sN_1297 (h : zStat P N) : N 1297 = 8 := h.2 (1297, 8) (by decide +kernel)
theorem sN_1329 (h : zStat P N) : N 1329 = 8 := h.2 (1329, 8) (by decide +kernel)
theorem sN_1392 (h : zStat P N) : N 1392 = 8 := h.2 (1392, 8) (by decide +kernel)
theorem sN_1425 (h : zStat P N) : N 1425 = 8 := h.2 (1425, 8) (by decide +kernel)
theorem sN_1457 (h : zStat P N) : N 1457 = 8 := h.2 (1457, 8) (by decide +kernel)
theorem sN_1520 (h : zStat P N) : N 1520 = 8 := h.2 (1520, 8) (by decide +kernel)
theorem sN_1553 (h : zStat P N) : N 1553 = 8 := h.2 (1553, 8) (by decide +kernel)
theorem sN_1585 (h : zStat P N) : N 1585 = 8 := h.2 (1585, 8) (by decide +kernel)
theorem sN_1648 (h : zStat P N) : N 1648 = 8 := h.2 (1648, 8) (by decide +kernel)
theorem sN_1681 (h : zStat P N) : N 1681 = 8 := h.2 (1681, 8) (by decide +kernel)
theorem sN_1713 (h : zStat P N) : N 1713 = 8 := h.2 (1713, 8) (by decide +kernel)
theorem sN_1776 (h : zStat P N) : N 1776 = 8 := h.2 (1776, 8) (by decide +kernel)
theorem sN_1809 (h : zStat P N) : N 1809 = 8 := h.2 (1809, 8) (by decide +kernel)
theorem sN_1841 (h : zStat P N) : N 1841 = 8 := h.2 (1841, 8) (by decide +kernel)
theorem sN_1904 (h : zStat P N) : N 1904 = 8 := h.2 (1904, 8) (by decide +kernel)
theorem sN_1937 (h : zStat P N) : N 1937 = 8 := h.2 (1937, 8) (by decide +kernel)
theorem sN_1969 (h : zStat P N) : N 1969 = 8 := h.2 (1969, 8) (by decide +kernel)
theorem sN_2032 (h : zStat P N) : N 2032 = 8 := h.2 (2032, 8) (by decide +kernel)
theorem sN_2065 (h : zStat P N) : N 2065 = 8 := h.2 (2065, 8) (by decide +kernel)
theorem sN_2097 (h : zStat P N) : N 2097 = 8 := h.2 (2097, 8) (by decide +kernel)
theorem sN_2164 (h : zStat P N) : N 2164 = 1024 := h.2 (2164, 1024) (by decide +kernel)
theorem sN_2193 (h : zStat P N) : N 2193 = 65 := h.2 (2193, 65) (by decide +kernel)
theorem sN_2224 (h : zStat P N) : N 2224 = 65 := h.2 (2224, 65) (by decide +kernel)
theorem sN_2256 (h : zStat P N) : N 2256 = 65 := h.2 (2256, 65) (by decide +kernel)
theorem sN_2320 (h : zStat P N) : N 2320 = 64 := h.2 (2320, 64) (by decide +kernel)
theorem sN_2353 (h : zStat P N) : N 2353 = 64 := h.2 (2353, 64) (by decide +kernel)
theorem sN_2385 (h : zStat P N) : N 2385 = 64 := h.2 (2385, 64) (by decide +kernel)
theorem sN_2448 (h : zStat P N) : N 2448 = 65 := h.2 (2448, 65) (by decide +kernel)
theorem sN_2481 (h : zStat P N) : N 2481 = 65 := h.2 (2481, 65) (by decide +kernel)
theorem sN_2513 (h : zStat P N) : N 2513 = 65 := h.2 (2513, 65) (by decide +kernel)
theorem sN_2575 (h : zStat P N) : N 2575 = 200 := h.2 (2575, 200) (by decide +kernel)
theorem sN_2609 (h : zStat P N) : N 2609 = 200 := h.2 (2609, 200) (by decide +kernel)
theorem sN_2640 (h : zStat P N) : N 2640 = 200 := h.2 (2640, 200) (by decide +kernel)
theorem sN_2671 (h : zStat P N) : N 2671 = 400 := h.2 (2671, 400) (by decide +kernel)
theorem sN_2704 (h : zStat P N) : N 2704 = 400 := h.2 (2704, 400) (by decide +kernel)
theorem sN_2736 (h : zStat P N) : N 2736 = 400 := h.2 (2736, 400) (by decide +kernel)
theorem sN_2799 (h : zStat P N) : N 2799 = 3201 := h.2 (2799, 3201) (by decide +kernel)
theorem sN_2833 (h : zStat P N) : N 2833 = 3201 := h.2 (2833, 3201) (by decide +kernel)
theorem sN_2864 (h : zStat P N) : N 2864 = 3201 := h.2 (2864, 3201) (by decide +kernel)
theorem sN_2896 (h : zStat P N) : N 2896 = 3201 := h.2 (2896, 3201) (by decide +kernel)
theorem sN_2928 (h : zStat P N) : N 2928 = 3000 := h.2 (2928, 3000) (by decide +kernel)
theorem sN_2960 (h : zStat P N) : N 2960 = 3000 := h.2 (2960, 3000) (by decide +kernel)
theorem sN_3024 (h : zStat P N) : N 3024 = 3 := h.2 (3024, 3) (by decide +kernel)
theorem sN_3061 (h : zStat P N) : N 3061 = 32 := h.2 (3061, 32) (by decide +kernel)
theorem sN_3088 (h : zStat P N) : N 3088 = 8 := h.2 (3088, 8) (by decide +kernel)
theorem sN_3151 (h : zStat P N) : N 3151 = 4096 := h.2 (3151, 4096) (by decide +kernel)
theorem sN_3184 (h : zStat P N) : N 3184 = 32 := h.2 (3184, 32) (by decide +kernel)
theorem sN_3216 (h : zStat P N) : N 3216 = 32 := h.2 (3216, 32) (by decide +kernel)
theorem sN_3248 (h : zStat P N) : N 3248 = 32 := h.2 (3248, 32) (by decide +kernel)
theorem sN_3280 (h : zStat P N) : N 3280 = 32 := h.2 (3280, 32) (by decide +kernel)
theorem sN_3312 (h : zStat P N) : N 3312 = 6080 := h.2 (3312, 6080) (by decide +kernel)
theorem sN_3345 (h : zStat P N) : N 3345 = 6080 := h.2 (3345, 6080) (by decide +kernel)
theorem sN_3375 (h : zStat P N) : N 3375 = 389120 := h.2 (3375, 389120) (by decide +kernel)
theorem sN_3408 (h : zStat P N) : N 3408 = 1024 := h.2 (3408, 1024) (by decide +kernel)
theorem sN_3440 (h : zStat P N) : N 3440 = 1024 := h.2 (3440, 1024) (by decide +kernel)
theorem sN_3472 (h : zStat P N) : N 3472 = 8192 := h.2 (3472, 8192) (by decide +kernel)
theorem sN_3505 (h : zStat P N) : N 3505 = 8192 := h.2 (3505, 8192) (by decide +kernel)
theorem sN_3537 (h : zStat P N) : N 3537 = 8192 := h.2 (3537, 8192) (by decide +kernel)
theorem sN_3567 (h : zStat P N) : N 3567 = 131072 := h.2 (3567, 131072) (by decide +kernel)
theorem sN_3600 (h : zStat P N) : N 3600 = 1024 := h.2 (3600, 1024) (by decide +kernel)
theorem sN_3632 (h : zStat P N) : N 3632 = 1024 := h.2 (3632, 1024) (by decide +kernel)
theorem sN_3664 (h : zStat P N) : N 3664 = 1024 := h.2 (3664, 1024) (by decide +kernel)
theorem sN_3697 (h : zStat P N) : N 3697 = 4200 := h.2 (3697, 4200) (by decide +kernel)
theorem sN_3728 (h : zStat P N) : N 3728 = 4200 := h.2 (3728, 4200) (by decide +kernel)
theorem sN_3760 (h : zStat P N) : N 3760 = 4200 := h.2 (3760, 4200) (by decide +kernel)
theorem sN_3792 (h : zStat P N) : N 3792 = 200 := h.2 (3792, 200) (by decide +kernel)
theorem sN_3825 (h : zStat P N) : N 3825 = 200 := h.2 (3825, 200) (by decide +kernel)
theorem sN_3856 (h : zStat P N) : N 3856 = 200 := h.2 (3856, 200) (by decide +kernel)
theorem sN_3888 (h : zStat P N) : N 3888 = 200 := h.2 (3888, 200) (by decide +kernel)
theorem sN_3920 (h : zStat P N) : N 3920 = 200 := h.2 (3920, 200) (by decide +kernel)
theorem sN_3952 (h : zStat P N) : N 3952 = 200 := h.2 (3952, 200) (by decide +kernel)
theorem sN_3984 (h : zStat P N) : N 3984 = 200 := h.2 (3984, 200) (by decide +kernel)
theorem sN_4017 (h : zStat P N) : N 4017 = 14 := h.2 (4017, 14) (by decide +kernel)
theorem sN_4048 (h : zStat P N) : N 4048 = 8 := h.2 (4048, 8) (by decide +kernel)
theorem sN_4080 (h : zStat P N) : N 4080 = 8 := h.2 (4080, 8) (by decide +kernel)
theorem sN_4112 (h : zStat P N) : N 4112 = 4 := h.2 (4112, 4) (by decide +kernel)
theorem sN_4144 (h : zStat P N) : N 4144 = 144 := h.2 (4144, 144) (by decide +kernel)
theorem sN_4177 (h : zStat P N) : N 4177 = 144 := h.2 (4177, 144) (by decide +kernel)
theorem sN_4209 (h : zStat P N) : N 4209 = 144 := h.2 (4209, 144) (by decide +kernel)
theorem sN_4241 (h : zStat P N) : N 4241 = 144 := h.2 (4241, 144) (by decide +kernel)
theorem sN_4273 (h : zStat P N) : N 4273 = 144 := h.2 (4273, 144) (by decide +kernel)
theorem sN_4338 (h : zStat P N) : N 4338 = 200 := h.2 (4338, 200) (by decide +kernel)
theorem sN_4368 (h : zStat P N) : N 4368 = 200 := h.2 (4368, 200) (by decide +kernel)
theorem sN_4401 (h : zStat P N) : N 4401 = 200 := h.2 (4401, 200) (by decide +kernel)
theorem sN_4432 (h : zStat P N) : N 4432 = 200 := h.2 (4432, 200) (by decide +kernel)
theorem sN_4464 (h : zStat P N) : N 4464 = 200 := h.2 (4464, 200) (by decide +kernel)
theorem sN_4495 (h : zStat P N) : N 4495 = 12800 := h.2 (4495, 12800) (by decide +kernel)
theorem sN_4528 (h : zStat P N) : N 4528 = 200 := h.2 (4528, 200) (by decide +kernel)
theorem sN_4559 (h : zStat P N) : N 4559 = 4096 := h.2 (4559, 4096) (by decide +kernel)
theorem sN_4592 (h : zStat P N) : N 4592 = 200 := h.2 (4592, 200) (by decide +kernel)
theorem sN_4624 (h : zStat P N) : N 4624 = 200 := h.2 (4624, 200) (by decide +kernel)
theorem sN_4656 (h : zStat P N) : N 4656 = 200 := h.2 (4656, 200) (by decide +kernel)
theorem sN_4688 (h : zStat P N) : N 4688 = 400 := h.2 (4688, 400) (by decide +kernel)
theorem sN_4720 (h : zStat P N) : N 4720 = 400 := h.2 (4720, 400) (by decide +kernel)
theorem sN_4752 (h : zStat P N) : N 4752 = 400 := h.2 (4752, 400) (by decide +kernel)
theorem sN_4784 (h : zStat P N) : N 4784 = 200 := h.2 (4784, 200) (by decide +kernel)
theorem sN_4816 (h : zStat P N) : N 4816 = 200 := h.2 (4816, 200) (by decide +kernel)
theorem sN_4848 (h : zStat P N) : N 4848 = 200 := h.2 (4848, 200) (by decide +kernel)
theorem sN_4880 (h : zStat P N) : N 4880 = 200 := h.2 (4880, 200) (by decide +kernel)
theorem sN_4944 (h : zStat P N) : N 4944 = 200 := h.2 (4944, 200) (by decide +kernel)
theorem sN_4977 (h : zStat P N) : N 4977 = 200 := h.2 (4977, 200) (by decide +kernel)
theorem sN_5008 (h : zStat P N) : N 5008 = 200 := h.2 (5008, 200) (by decide +kernel)
theorem sN_5040 (h : zStat P N) : N 5040 = 200 := h.2 (5040, 200) (by decide +kernel)
theorem sN_5072 (h : zStat P N) : N 5072 = 200 := h.2 (5072, 200) (by decide +kernel)
theorem sN_5103 (h : zStat P N) : N 5103 = 12800 := h.2 (5103, 12800) (by decide +kernel)
theorem sN_5136 (h : zStat P N) : N 5136 = 200 := h.2 (5136, 200) (by decide +kernel)
theorem sN_5168 (h : zStat P N) : N 5168 = 3700 := h.2 (5168, 3700) (by decide +kernel)
theorem sN_5201 (h : zStat P N) : N 5201 = 3700 := h.2 (5201, 3700) (by decide +kernel)
theorem sN_5232 (h : zStat P N) : N 5232 = 3700 := h.2 (5232, 3700) (by decide +kernel)
theorem sN_5264 (h : zStat P N) : N 5264 = 3700 := h.2 (5264, 3700) (by decide +kernel)
theorem sN_5296 (h : zStat P N) : N 5296 = 3700 := h.2 (5296, 3700) (by decide +kernel)
theorem sN_5328 (h : zStat P N) : N 5328 = 3700 := h.2 (5328, 3700) (by decide +kernel)
theorem sN_5360 (h : zStat P N) : N 5360 = 3700 := h.2 (5360, 3700) (by decide +kernel)
theorem sN_5392 (h : zStat P N) : N 5392 = 3700 := h.2 (5392, 3700) (by decide +kernel)
theorem sN_5424 (h : zStat P N) : N 5424 = 3700 := h.2 (5424, 3700) (by decide +kernel)
theorem sN_5455 (h : zStat P N) : N 5455 = 70000 := h.2 (5455, 70000) (by decide +kernel)
theorem sN_5488 (h : zStat P N) : N 5488 = 5000 := h.2 (5488, 5000) (by decide +kernel)
theorem sN_5521 (h : zStat P N) : N 5521 = 5000 := h.2 (5521, 5000) (by decide +kernel)
theorem sN_5552 (h : zStat P N) : N 5552 = 5000 := h.2 (5552, 5000) (by decide +kernel)
theorem sN_5584 (h : zStat P N) : N 5584 = 5000 := h.2 (5584, 5000) (by decide +kernel)
theorem sN_5616 (h : zStat P N) : N 5616 = 700000 := h.2 (5616, 700000) (by decide +kernel)
theorem sN_5648 (h : zStat P N) : N 5648 = 3200 := h.2 (5648, 3200) (by decide +kernel)
theorem sN_5680 (h : zStat P N) : N 5680 = 3200 := h.2 (5680, 3200) (by decide +kernel)
theorem sN_5712 (h : zStat P N) : N 5712 = 200 := h.2 (5712, 200) (by decide +kernel)
theorem sN_5744 (h : zStat P N) : N 5744 = 400 := h.2 (5744, 400) (by decide +kernel)
theorem sN_5776 (h : zStat P N) : N 5776 = 400 := h.2 (5776, 400) (by decide +kernel)
theorem sN_5808 (h : zStat P N) : N 5808 = 400 := h.2 (5808, 400) (by decide +kernel)
theorem sN_5840 (h : zStat P N) : N 5840 = 3 := h.2 (5840, 3) (by decide +kernel)
theorem sN_5872 (h : zStat P N) : N 5872 = 600 := h.2 (5872, 600) (by decide +kernel)
theorem sN_5905 (h : zStat P N) : N 5905 = 600 := h.2 (5905, 600) (by decide +kernel)
theorem sN_5936 (h : zStat P N) : N 5936 = 600 := h.2 (5936, 600) (by decide +kernel)
theorem sN_5968 (h : zStat P N) : N 5968 = 600 := h.2 (5968, 600) (by decide +kernel)
theorem sN_5999 (h : zStat P N) : N 5999 = 12288 := h.2 (5999, 12288) (by decide +kernel)
theorem sN_6032 (h : zStat P N) : N 6032 = 3 := h.2 (6032, 3) (by decide +kernel)
theorem sN_6064 (h : zStat P N) : N 6064 = 200 := h.2 (6064, 200) (by decide +kernel)
theorem sN_6096 (h : zStat P N) : N 6096 = 220 := h.2 (6096, 220) (by decide +kernel)
theorem sN_6128 (h : zStat P N) : N 6128 = 200 := h.2 (6128, 200) (by decide +kernel)
theorem sN_6160 (h : zStat P N) : N 6160 = 200 := h.2 (6160, 200) (by decide +kernel)
theorem sN_6192 (h : zStat P N) : N 6192 = 200 := h.2 (6192, 200) (by decide +kernel)
theorem sN_6225 (h : zStat P N) : N 6225 = 200 := h.2 (6225, 200) (by decide +kernel)
theorem sN_6256 (h : zStat P N) : N 6256 = 200 := h.2 (6256, 200) (by decide +kernel)
theorem sN_6288 (h : zStat P N) : N 6288 = 200 := h.2 (6288, 200) (by decide +kernel)
theorem sN_6320 (h : zStat P N) : N 6320 = 200 := h.2 (6320, 200) (by decide +kernel)
theorem sN_6352 (h : zStat P N) : N 6352 = 200 := h.2 (6352, 200) (by decide +kernel)
theorem sN_6383 (h : zStat P N) : N 6383 = 4096 := h.2 (6383, 4096) (by decide +kernel)
theorem sN_6417 (h : zStat P N) : N 6417 = 1 := h.2 (6417, 1) (by decide +kernel)
end
section
variable {d : Int32} {L : Nat} {xs : Nat → Int32} {I : zI} {J : zJ} {P : zP} {N : Nat → Nat} {n z : Nat}
theorem iI_11_8 (h : zF d L xs (I, J, P, N, n, z)) : I 11 8 = 0 := h.2.2.1 (11, 8, 0) (by decide +kernel)
theorem iI_11_9 (h : zF d L xs (I, J, P, N, n, z)) : I 11 9 = 0 := h.2.2.1 (11, 9, 0) (by decide +kernel)
theorem iI_11_10 (h : zF d L xs (I, J, P, N, n, z)) : I 11 10 = 0 := h.2.2.1 (11, 10, 0) (by decide +kernel)
theorem iI_11_11 (h : zF d L xs (I, J, P, N, n, z)) : I 11 11 = 0 := h.2.2.1 (11, 11, 0) (by decide +kernel)
theorem iI_37_7 (h : zF d L xs (I, J, P, N, n, z)) : I 37 7 = 0 := h.2.2.1 (37, 7, 0) (by decide +kernel)
theorem iI_37_8 (h : zF d L xs (I, J, P, N, n, z)) : I 37 8 = 0 := h.2.2.1 (37, 8, 0) (by decide +kernel)
theorem iI_290_4 (h : zF d L xs (I, J, P, N, n, z)) : I 290 4 = 0 := h.2.2.1 (290, 4, 0) (by decide +kernel)
theorem iI_290_5 (h : zF d L xs (I, J, P, N, n, z)) : I 290 5 = 0 := h.2.2.1 (290, 5, 0) (by decide +kernel)
theorem iI_290_6 (h : zF d L xs (I, J, P, N, n, z)) : I 290 6 = 0 := h.2.2.1 (290, 6, 0) (by decide +kernel)
theorem iI_290_7 (h : zF d L xs (I, J, P, N, n, z)) : I 290 7 = 0 := h.2.2.1 (290, 7, 0) (by decide +kernel)
theorem iI_290_9 (h : zF d L xs (I, J, P, N, n, z)) : I 290 9 = 0 := h.2.2.1 (290, 9, 0) (by decide +kernel)
theorem iI_290_10 (h : zF d L xs (I, J, P, N, n, z)) : I 290 10 = 0 := h.2.2.1 (290, 10, 0) (by decide +kernel)
theorem iI_424_6 (h : zF d L xs (I, J, P, N, n, z)) : I 424 6 = 0 := h.2.2.1 (424, 6, 0) (by decide +kernel)
theorem iI_424_8 (h : zF d L xs (I, J, P, N, n, z)) : I 424 8 = 0 := h.2.2.1 (424, 8, 0) (by decide +kernel)
theorem iI_424_9 (h : zF d L xs (I, J, P, N, n, z)) : I 424 9 = 0 := h.2.2.1 (424, 9, 0) (by decide +kernel)
theorem iI_424_11 (h : zF d L xs (I, J, P, N, n, z)) : I 424 11 = 0 := h.2.2.1 (424, 11, 0) (by decide +kernel)
theorem iI_424_12 (h : zF d L xs (I, J, P, N, n, z)) : I 424 12 = 0 := h.2.2.1 (424, 12, 0) (by decide +kernel)
theorem iI_649_12 (h : zF d L xs (I, J, P, N, n, z)) : I 649 12 = 0 := h.2.2.1 (649, 12, 0) (by decide +kernel)
theorem iI_649_13 (h : zF d L xs (I, J, P, N, n, z)) : I 649 13 = 0 := h.2.2.1 (649, 13, 0) (by decide +kernel)
theorem iI_897_3 (h : zF d L xs (I, J, P, N, n, z)) : I 897 3 = 0 := h.2.2.1 (897, 3, 0) (by decide +kernel)
theorem iI_1089_3 (h : zF d L xs (I, J, P, N, n, z)) : I 1089 3 = 0 := h.2.2.1 (1089, 3, 0) (by decide +kernel)
theorem iI_1217_3 (h : zF d L xs (I, J, P, N, n, z)) : I 1217 3 = 0 := h.2.2.1 (1217, 3, 0) (by decide +kernel)
theorem iI_1345_3 (h : zF d L xs (I, J, P, N, n, z)) : I 1345 3 = 0 := h.2.2.1 (1345, 3, 0) (by decide +kernel)
theorem iI_1473_3 (h : zF d L xs (I, J, P, N, n, z)) : I 1473 3 = 0 := h.2.2.1 (1473, 3, 0) (by decide +kernel)
theorem iI_1601_3 (h : zF d L xs (I, J, P, N, n, z)) : I 1601 3 = 0 := h.2.2.1 (1601, 3, 0) (by decide +kernel)
theorem iI_1729_3 (h : zF d L xs (I, J, P, N, n, z)) : I 1729 3 = 0 := h.2.2.1 (1729, 3, 0) (by decide +kernel)
theorem iI_1857_3 (h : zF d L xs (I, J, P, N, n, z)) : I 1857 3 = 0 := h.2.2.1 (1857, 3, 0) (by decide +kernel)
theorem iI_1985_3 (h : zF d L xs (I, J, P, N, n, z)) : I 1985 3 = 0 := h.2.2.1 (1985, 3, 0) (by decide +kernel)
theorem iI_2115_2 (h : zF d L xs (I, J, P, N, n, z)) : I 2115 2 = 0 := h.2.2.1 (2115, 2, 0) (by decide +kernel)
theorem iI_2115_3 (h : zF d L xs (I, J, P, N, n, z)) : I 2115 3 = 0 := h.2.2.1 (2115, 3, 0) (by decide +kernel)
theorem iI_2115_4 (h : zF d L xs (I, J, P, N, n, z)) : I 2115 4 = 0 := h.2.2.1 (2115, 4, 0) (by decide +kernel)
theorem iI_2115_5 (h : zF d L xs (I, J, P, N, n, z)) : I 2115 5 = 0 := h.2.2.1 (2115, 5, 0) (by decide +kernel)
theorem iI_2115_7 (h : zF d L xs (I, J, P, N, n, z)) : I 2115 7 = 0 := h.2.2.1 (2115, 7, 0) (by decide +kernel)
theorem iI_2115_8 (h : zF d L xs (I, J, P, N, n, z)) : I 2115 8 = 0 := h.2.2.1 (2115, 8, 0) (by decide +kernel)
theorem iI_2273_3 (h : zF d L xs (I, J, P, N, n, z)) : I 2273 3 = 0 := h.2.2.1 (2273, 3, 0) (by decide +kernel)
theorem iI_2401_3 (h : zF d L xs (I, J, P, N, n, z)) : I 2401 3 = 0 := h.2.2.1 (2401, 3, 0) (by decide +kernel)
theorem iI_2532_9 (h : zF d L xs (I, J, P, N, n, z)) : I 2532 9 = 0 := h.2.2.1 (2532, 9, 0) (by decide +kernel)
theorem iI_2532_10 (h : zF d L xs (I, J, P, N, n, z)) : I 2532 10 = 0 := h.2.2.1 (2532, 10, 0) (by decide +kernel)
theorem iI_2532_11 (h : zF d L xs (I, J, P, N, n, z)) : I 2532 11 = 0 := h.2.2.1 (2532, 11, 0) (by decide +kernel)
theorem iI_2532_12 (h : zF d L xs (I, J, P, N, n, z)) : I 2532 12 = 0 := h.2.2.1 (2532, 12, 0) (by decide +kernel)
theorem iI_2532_13 (h : zF d L xs (I, J, P, N, n, z)) : I 2532 13 = 0 := h.2.2.1 (2532, 13, 0) (by decide +kernel)
theorem iI_2532_14 (h : zF d L xs (I, J, P, N, n, z)) : I 2532 14 = 0 := h.2.2.1 (2532, 14, 0) (by decide +kernel)
theorem iI_2532_15 (h : zF d L xs (I, J, P, N, n, z)) : I 2532 15 = 0 := h.2.2.1 (2532, 15, 0) (by decide +kernel)
theorem iI_2532_16 (h : zF d L xs (I, J, P, N, n, z)) : I 2532 16 = 0 := h.2.2.1 (2532, 16, 0) (by decide +kernel)
theorem iI_2532_17 (h : zF d L xs (I, J, P, N, n, z)) : I 2532 17 = 0 := h.2.2.1 (2532, 17, 0) (by decide +kernel)
theorem iI_2762_5 (h : zF d L xs (I, J, P, N, n, z)) : I 2762 5 = 0 := h.2.2.1 (2762, 5, 0) (by decide +kernel)
theorem iI_2762_8 (h : zF d L xs (I, J, P, N, n, z)) : I 2762 8 = 0 := h.2.2.1 (2762, 8, 0) (by decide +kernel)
theorem iI_3088_0 (h : zF d L xs (I, J, P, N, n, z)) : I 3088 0 = -1 := h.2.2.1 (3088, 0, -1) (by decide +kernel)
theorem iI_3088_1 (h : zF d L xs (I, J, P, N, n, z)) : I 3088 1 = -1 := h.2.2.1 (3088, 1, -1) (by decide +kernel)
theorem iI_3088_2 (h : zF d L xs (I, J, P, N, n, z)) : I 3088 2 = -1 := h.2.2.1 (3088, 2, -1) (by decide +kernel)
theorem iI_3088_3 (h : zF d L xs (I, J, P, N, n, z)) : I 3088 3 = -1 := h.2.2.1 (3088, 3, -1) (by decide +kernel)
theorem iI_3088_4 (h : zF d L xs (I, J, P, N, n, z)) : I 3088 4 = -1 := h.2.2.1 (3088, 4, -1) (by decide +kernel)
theorem iI_3088_5 (h : zF d L xs (I, J, P, N, n, z)) : I 3088 5 = -1 := h.2.2.1 (3088, 5, -1) (by decide +kernel)
theorem iI_3088_6 (h : zF d L xs (I, J, P, N, n, z)) : I 3088 6 = -1 := h.2.2.1 (3088, 6, -1) (by decide +kernel)
theorem iI_3088_7 (h : zF d L xs (I, J, P, N, n, z)) : I 3088 7 = -1 := h.2.2.1 (3088, 7, -1) (by decide +kernel)
theorem iI_3118_2 (h : zF d L xs (I, J, P, N, n, z)) : I 3118 2 = 0 := h.2.2.1 (3118, 2, 0) (by decide +kernel)
theorem iI_3118_3 (h : zF d L xs (I, J, P, N, n, z)) : I 3118 3 = 0 := h.2.2.1 (3118, 3, 0) (by decide +kernel)
theorem iI_3118_11 (h : zF d L xs (I, J, P, N, n, z)) : I 3118 11 = 0 := h.2.2.1 (3118, 11, 0) (by decide +kernel)
theorem iI_3118_12 (h : zF d L xs (I, J, P, N, n, z)) : I 3118 12 = 0 := h.2.2.1 (3118, 12, 0) (by decide +kernel)
theorem iI_3118_13 (h : zF d L xs (I, J, P, N, n, z)) : I 3118 13 = 0 := h.2.2.1 (3118, 13, 0) (by decide +kernel)
theorem iI_3118_23 (h : zF d L xs (I, J, P, N, n, z)) : I 3118 23 = 0 := h.2.2.1 (3118, 23, 0) (by decide +kernel)
theorem iI_3118_24 (h : zF d L xs (I, J, P, N, n, z)) : I 3118 24 = 0 := h.2.2.1 (3118, 24, 0) (by decide +kernel)
theorem iI_3118_28 (h : zF d L xs (I, J, P, N, n, z)) : I 3118 28 = 0 := h.2.2.1 (3118, 28, 0) (by decide +kernel)
theorem iI_3118_30 (h : zF d L xs (I, J, P, N, n, z)) : I 3118 30 = -1 := h.2.2.1 (3118, 30, -1) (by decide +kernel)
theorem iI_3118_31 (h : zF d L xs (I, J, P, N, n, z)) : I 3118 31 = -1 := h.2.2.1 (3118, 31, -1) (by decide +kernel)
theorem iI_3118_32 (h : zF d L xs (I, J, P, N, n, z)) : I 3118 32 = 0 := h.2.2.1 (3118, 32, 0) (by decide +kernel)
theorem iI_3118_33 (h : zF d L xs (I, J, P, N, n, z)) : I 3118 33 = -1 := h.2.2.1 (3118, 33, -1) (by decide +kernel)
theorem iI_3118_34 (h : zF d L xs (I, J, P, N, n, z)) : I 3118 34 = -1 := h.2.2.1 (3118, 34, -1) (by decide +kernel)
theorem iI_3118_35 (h : zF d L xs (I, J, P, N, n, z)) : I 3118 35 = -1 := h.2.2.1 (3118, 35, -1) (by decide +kernel)
theorem iI_3118_36 (h : zF d L xs (I, J, P, N, n, z)) : I 3118 36 = -1 := h.2.2.1 (3118, 36, -1) (by decide +kernel)
theorem iI_3118_37 (h : zF d L xs (I, J, P, N, n, z)) : I 3118 37 = 0 := h.2.2.1 (3118, 37, 0) (by decide +kernel)
theorem iI_3118_38 (h : zF d L xs (I, J, P, N, n, z)) : I 3118 38 = 0 := h.2.2.1 (3118, 38, 0) (by decide +kernel)
theorem iI_3118_47 (h : zF d L xs (I, J, P, N, n, z)) : I 3118 47 = 0 := h.2.2.1 (3118, 47, 0) (by decide +kernel)
theorem iI_3118_48 (h : zF d L xs (I, J, P, N, n, z)) : I 3118 48 = 0 := h.2.2.1 (3118, 48, 0) (by decide +kernel)
theorem iI_3118_52 (h : zF d L xs (I, J, P, N, n, z)) : I 3118 52 = 0 := h.2.2.1 (3118, 52, 0) (by decide +kernel)
theorem iI_3118_54 (h : zF d L xs (I, J, P, N, n, z)) : I 3118 54 = 0 := h.2.2.1 (3118, 54, 0) (by decide +kernel)
theorem iI_3118_55 (h : zF d L xs (I, J, P, N, n, z)) : I 3118 55 = 0 := h.2.2.1 (3118, 55, 0) (by decide +kernel)
theorem iI_3118_63 (h : zF d L xs (I, J, P, N, n, z)) : I 3118 63 = 0 := h.2.2.1 (3118, 63, 0) (by decide +kernel)
theorem iI_3118_66 (h : zF d L xs (I, J, P, N, n, z)) : I 3118 66 = 0 := h.2.2.1 (3118, 66, 0) (by decide +kernel)
theorem iI_3118_74 (h : zF d L xs (I, J, P, N, n, z)) : I 3118 74 = 0 := h.2.2.1 (3118, 74, 0) (by decide +kernel)
theorem iI_4301_0 (h : zF d L xs (I, J, P, N, n, z)) : I 4301 0 = 0 := h.2.2.1 (4301, 0, 0) (by decide +kernel)
theorem iI_4301_7 (h : zF d L xs (I, J, P, N, n, z)) : I 4301 7 = 0 := h.2.2.1 (4301, 7, 0) (by decide +kernel)
theorem iI_4301_9 (h : zF d L xs (I, J, P, N, n, z)) : I 4301 9 = 0 := h.2.2.1 (4301, 9, 0) (by decide +kernel)
theorem iI_4301_11 (h : zF d L xs (I, J, P, N, n, z)) : I 4301 11 = 0 := h.2.2.1 (4301, 11, 0) (by decide +kernel)
theorem iI_4301_12 (h : zF d L xs (I, J, P, N, n, z)) : I 4301 12 = 0 := h.2.2.1 (4301, 12, 0) (by decide +kernel)
theorem iI_4301_13 (h : zF d L xs (I, J, P, N, n, z)) : I 4301 13 = 0 := h.2.2.1 (4301, 13, 0) (by decide +kernel)
theorem iI_4301_14 (h : zF d L xs (I, J, P, N, n, z)) : I 4301 14 = -1 := h.2.2.1 (4301, 14, -1) (by decide +kernel)
theorem iI_4301_18 (h : zF d L xs (I, J, P, N, n, z)) : I 4301 18 = 0 := h.2.2.1 (4301, 18, 0) (by decide +kernel)
theorem iI_4301_22 (h : zF d L xs (I, J, P, N, n, z)) : I 4301 22 = 0 := h.2.2.1 (4301, 22, 0) (by decide +kernel)
theorem iI_4301_24 (h : zF d L xs (I, J, P, N, n, z)) : I 4301 24 = 0 := h.2.2.1 (4301, 24, 0) (by decide +kernel)
theorem iI_4908_0 (h : zF d L xs (I, J, P, N, n, z)) : I 4908 0 = 0 := h.2.2.1 (4908, 0, 0) (by decide +kernel)
theorem iI_4908_7 (h : zF d L xs (I, J, P, N, n, z)) : I 4908 7 = 0 := h.2.2.1 (4908, 7, 0) (by decide +kernel)
theorem iI_4908_9 (h : zF d L xs (I, J, P, N, n, z)) : I 4908 9 = 0 := h.2.2.1 (4908, 9, 0) (by decide +kernel)
theorem iI_4908_19 (h : zF d L xs (I, J, P, N, n, z)) : I 4908 19 = 0 := h.2.2.1 (4908, 19, 0) (by decide +kernel)
theorem iI_4908_21 (h : zF d L xs (I, J, P, N, n, z)) : I 4908 21 = 0 := h.2.2.1 (4908, 21, 0) (by decide +kernel)
theorem iI_4908_26 (h : zF d L xs (I, J, P, N, n, z)) : I 4908 26 = 0 := h.2.2.1 (4908, 26, 0) (by decide +kernel)
theorem iI_4908_28 (h : zF d L xs (I, J, P, N, n, z)) : I 4908 28 = 0 := h.2.2.1 (4908, 28, 0) (by decide +kernel)
theorem iI_4908_31 (h : zF d L xs (I, J, P, N, n, z)) : I 4908 31 = 0 := h.2.2.1 (4908, 31, 0) (by decide +kernel)
theorem iI_4908_36 (h : zF d L xs (I, J, P, N, n, z)) : I 4908 36 = 0 := h.2.2.1 (4908, 36, 0) (by decide +kernel)
theorem iI_4908_37 (h : zF d L xs (I, J, P, N, n, z)) : I 4908 37 = 0 := h.2.2.1 (4908, 37, 0) (by decide +kernel)
theorem iI_4908_44 (h : zF d L xs (I, J, P, N, n, z)) : I 4908 44 = -1 := h.2.2.1 (4908, 44, -1) (by decide +kernel)
theorem iI_4908_45 (h : zF d L xs (I, J, P, N, n, z)) : I 4908 45 = 0 := h.2.2.1 (4908, 45, 0) (by decide +kernel)
theorem iI_4908_46 (h : zF d L xs (I, J, P, N, n, z)) : I 4908 46 = 0 := h.2.2.1 (4908, 46, 0) (by decide +kernel)
theorem iI_4908_47 (h : zF d L xs (I, J, P, N, n, z)) : I 4908 47 = 0 := h.2.2.1 (4908, 47, 0) (by decide +kernel)
theorem iI_4908_48 (h : zF d L xs (I, J, P, N, n, z)) : I 4908 48 = 0 := h.2.2.1 (4908, 48, 0) (by decide +kernel)
theorem iI_4908_49 (h : zF d L xs (I, J, P, N, n, z)) : I 4908 49 = 0 := h.2.2.1 (4908, 49, 0) (by decide +kernel)
theorem iI_4908_50 (h : zF d L xs (I, J, P, N, n, z)) : I 4908 50 = 0 := h.2.2.1 (4908, 50, 0) (by decide +kernel)
theorem iI_4908_51 (h : zF d L xs (I, J, P, N, n, z)) : I 4908 51 = 0 := h.2.2.1 (4908, 51, 0) (by decide +kernel)
theorem iI_4908_52 (h : zF d L xs (I, J, P, N, n, z)) : I 4908 52 = 0 := h.2.2.1 (4908, 52, 0) (by decide +kernel)
theorem iI_4908_53 (h : zF d L xs (I, J, P, N, n, z)) : I 4908 53 = 0 := h.2.2.1 (4908, 53, 0) (by decide +kernel)
theorem iI_4908_56 (h : zF d L xs (I, J, P, N, n, z)) : I 4908 56 = 0 := h.2.2.1 (4908, 56, 0) (by decide +kernel)
theorem iJ_11_12 (h : zF d L xs (I, J, P, N, n, z)) : J 11 12 = 0 := h.2.2.2.1 (11, 12, 0) (by decide +kernel)
theorem iJ_290_8 (h : zF d L xs (I, J, P, N, n, z)) : J 290 8 = 0 := h.2.2.2.1 (290, 8, 0) (by decide +kernel)
theorem iJ_424_10 (h : zF d L xs (I, J, P, N, n, z)) : J 424 10 = 0 := h.2.2.2.1 (424, 10, 0) (by decide +kernel)
theorem iJ_2115_6 (h : zF d L xs (I, J, P, N, n, z)) : J 2115 6 = 0 := h.2.2.2.1 (2115, 6, 0) (by decide +kernel)
theorem iJ_3118_29 (h : zF d L xs (I, J, P, N, n, z)) : J 3118 29 = 0 := h.2.2.2.1 (3118, 29, 0) (by decide +kernel)
theorem iJ_3118_49 (h : zF d L xs (I, J, P, N, n, z)) : J 3118 49 = 0 := h.2.2.2.1 (3118, 49, 0) (by decide +kernel)
theorem iZ_79 (h : zF d L xs (I, J, P, N, n, z)) {j : Nat} : I 79 j = 0 := h.2.2.2.2.1 79 (by decide +kernel) j
theorem iZ_112 (h : zF d L xs (I, J, P, N, n, z)) {j : Nat} : I 112 j = 0 := h.2.2.2.2.1 112 (by decide +kernel) j
theorem iZ_144 (h : zF d L xs (I, J, P, N, n, z)) {j : Nat} : I 144 j = 0 := h.2.2.2.2.1 144 (by decide +kernel) j
theorem iZ_176 (h : zF d L xs (I, J, P, N, n, z)) {j : Nat} : I 176 j = 0 := h.2.2.2.2.1 176 (by decide +kernel) j
theorem iZ_239 (h : zF d L xs (I, J, P, N, n, z)) {j : Nat} : I 239 j = 0 := h.2.2.2.2.1 239 (by decide +kernel) j
theorem iZ_272 (h : zF d L xs (I, J, P, N, n, z)) {j : Nat} : I 272 j = 0 := h.2.2.2.2.1 272 (by decide +kernel) j
theorem iZ_336 (h : zF d L xs (I, J, P, N, n, z)) {j : Nat} : I 336 j = 0 := h.2.2.2.2.1 336 (by decide +kernel) j
theorem iZ_368 (h : zF d L xs (I, J, P, N, n, z)) {j : Nat} : I 368 j = 0 := h.2.2.2.2.1 368 (by decide +kernel) j
theorem iZ_400 (h : zF d L xs (I, J, P, N, n, z)) {j : Nat} : I 400 j = 0 := h.2.2.2.2.1 400 (by decide +kernel) j
theorem iZ_463 (h : zF d L xs (I, J, P, N, n, z)) {j : Nat} : I 463 j = 0 := h.2.2.2.2.1 463 (by decide +kernel) j
theorem iZ_528 (h : zF d L xs (I, J, P, N, n, z)) {j : Nat} : I 528 j = 0 := h.2.2.2.2.1 528 (by decide +kernel) j
theorem iZ_560 (h : zF d L xs (I, J, P, N, n, z)) {j : Nat} : I 560 j = 0 := h.2.2.2.2.1 560 (by decide +kernel) j
theorem iZ_592 (h : zF d L xs (I, J, P, N, n, z)) {j : Nat} : I 592 j = 0 := h.2.2.2.2.1 592 (by decide +kernel) j
theorem iZ_624 (h : zF d L xs (I, J, P, N, n, z)) {j : Nat} : I 624 j = 0 := h.2.2.2.2.1 624 (by decide +kernel) j
theorem iZ_688 (h : zF d L xs (I, J, P, N, n, z)) {j : Nat} : I 688 j = 0 := h.2.2.2.2.1 688 (by decide +kernel) j
theorem iZ_720 (h : zF d L xs (I, J, P, N, n, z)) {j : Nat} : I 720 j = 0 := h.2.2.2.2.1 720 (by decide +kernel) j
theorem iZ_752 (h : zF d L xs (I, J, P, N, n, z)) {j : Nat} : I 752 j = 0 := h.2.2.2.2.1 752 (by decide +kernel) j
theorem iZ_784 (h : zF d L xs (I, J, P, N, n, z)) {j : Nat} : I 784 j = 0 := h.2.2.2.2.1 784 (by decide +kernel) j
theorem iZ_848 (h : zF d L xs (I, J, P, N, n, z)) {j : Nat} : I 848 j = 0 := h.2.2.2.2.1 848 (by decide +kernel) j
theorem iZ_880 (h : zF d L xs (I, J, P, N, n, z)) {j : Nat} : I 880 j = 0 := h.2.2.2.2.1 880 (by decide +kernel) j
theorem iZ_944 (h : zF d L xs (I, J, P, N, n, z)) {j : Nat} : I 944 j = 0 := h.2.2.2.2.1 944 (by decide +kernel) j
theorem iZ_1040 (h : zF d L xs (I, J, P, N, n, z)) {j : Nat} : I 1040 j = 0 := h.2.2.2.2.1 1040 (by decide +kernel) j
theorem iZ_1072 (h : zF d L xs (I, J, P, N, n, z)) {j : Nat} : I 1072 j = 0 := h.2.2.2.2.1 1072 (by decide +kernel) j
theorem iZ_1136 (h : zF d L xs (I, J, P, N, n, z)) {j : Nat} : I 1136 j = 0 := h.2.2.2.2.1 1136 (by decide +kernel) j
theorem iZ_1264 (h : zF d L xs (I, J, P, N, n, z)) {j : Nat} : I 1264 j = 0 := h.2.2.2.2.1 1264 (by decide +kernel) j
theorem iZ_1392 (h : zF d L xs (I, J, P, N, n, z)) {j : Nat} : I 1392 j = 0 := h.2.2.2.2.1 1392 (by decide +kernel) j
theorem iZ_1520 (h : zF d L xs (I, J, P, N, n, z)) {j : Nat} : I 1520 j = 0 := h.2.2.2.2.1 1520 (by decide +kernel) j
theorem iZ_1648 (h : zF d L xs (I, J, P, N, n, z)) {j : Nat} : I 1648 j = 0 := h.2.2.2.2.1 1648 (by decide +kernel) j
theorem iZ_1776 (h : zF d L xs (I, J, P, N, n, z)) {j : Nat} : I 1776 j = 0 := h.2.2.2.2.1 1776 (by decide +kernel) j
theorem iZ_1904 (h : zF d L xs (I, J, P, N, n, z)) {j : Nat} : I 1904 j = 0 := h.2.2.2.2.1 1904 (by decide +kernel) j
theorem iZ_2032 (h : zF d L xs (I, J, P, N, n, z)) {j : Nat} : I 2032 j = 0 := h.2.2.2.2.1 2032 (by decide +kernel) j
theorem iZ_2224 (h : zF d L xs (I, J, P, N, n, z)) {j : Nat} : I 2224 j = 0 := h.2.2.2.2.1 2224 (by decide +kernel) j
theorem iZ_2256 (h : zF d L xs (I, J, P, N, n, z)) {j : Nat} : I 2256 j = 0 := h.2.2.2.2.1 2256 (by decide +kernel) j
theorem iZ_2320 (h : zF d L xs (I, J, P, N, n, z)) {j : Nat} : I 2320 j = 0 := h.2.2.2.2.1 2320 (by decide +kernel) j
theorem iZ_2448 (h : zF d L xs (I, J, P, N, n, z)) {j : Nat} : I 2448 j = 0 := h.2.2.2.2.1 2448 (by decide +kernel) j
theorem iZ_2575 (h : zF d L xs (I, J, P, N, n, z)) {j : Nat} : I 2575 j = 0 := h.2.2.2.2.1 2575 (by decide +kernel) j
theorem iZ_2640 (h : zF d L xs (I, J, P, N, n, z)) {j : Nat} : I 2640 j = 0 := h.2.2.2.2.1 2640 (by decide +kernel) j
theorem iZ_2671 (h : zF d L xs (I, J, P, N, n, z)) {j : Nat} : I 2671 j = 0 := h.2.2.2.2.1 2671 (by decide +kernel) j
theorem iZ_2704 (h : zF d L xs (I, J, P, N, n, z)) {j : Nat} : I 2704 j = 0 := h.2.2.2.2.1 2704 (by decide +kernel) j
theorem iZ_2736 (h : zF d L xs (I, J, P, N, n, z)) {j : Nat} : I 2736 j = 0 := h.2.2.2.2.1 2736 (by decide +kernel) j
theorem iZ_2799 (h : zF d L xs (I, J, P, N, n, z)) {j : Nat} : I 2799 j = 0 := h.2.2.2.2.1 2799 (by decide +kernel) j
theorem iZ_2864 (h : zF d L xs (I, J, P, N, n, z)) {j : Nat} : I 2864 j = 0 := h.2.2.2.2.1 2864 (by decide +kernel) j
theorem iZ_2896 (h : zF d L xs (I, J, P, N, n, z)) {j : Nat} : I 2896 j = 0 := h.2.2.2.2.1 2896 (by decide +kernel) j
theorem iZ_2928 (h : zF d L xs (I, J, P, N, n, z)) {j : Nat} : I 2928 j = 0 := h.2.2.2.2.1 2928 (by decide +kernel) j
theorem iZ_2960 (h : zF d L xs (I, J, P, N, n, z)) {j : Nat} : I 2960 j = 0 := h.2.2.2.2.1 2960 (by decide +kernel) j
theorem iZ_3024 (h : zF d L xs (I, J, P, N, n, z)) {j : Nat} : I 3024 j = 0 := h.2.2.2.2.1 3024 (by decide +kernel) j
theorem iZ_3151 (h : zF d L xs (I, J, P, N, n, z)) {j : Nat} : I 3151 j = 0 := h.2.2.2.2.1 3151 (by decide +kernel) j
theorem iZ_3184 (h : zF d L xs (I, J, P, N, n, z)) {j : Nat} : I 3184 j = 0 := h.2.2.2.2.1 3184 (by decide +kernel) j
theorem iZ_3216 (h : zF d L xs (I, J, P, N, n, z)) {j : Nat} : I 3216 j = 0 := h.2.2.2.2.1 3216 (by decide +kernel) j
theorem iZ_3248 (h : zF d L xs (I, J, P, N, n, z)) {j : Nat} : I 3248 j = 0 := h.2.2.2.2.1 3248 (by decide +kernel) j
theorem iZ_3280 (h : zF d L xs (I, J, P, N, n, z)) {j : Nat} : I 3280 j = 0 := h.2.2.2.2.1 3280 (by decide +kernel) j
theorem iZ_3312 (h : zF d L xs (I, J, P, N, n, z)) {j : Nat} : I 3312 j = 0 := h.2.2.2.2.1 3312 (by decide +kernel) j
theorem iZ_3375 (h : zF d L xs (I, J, P, N, n, z)) {j : Nat} : I 3375 j = 0 := h.2.2.2.2.1 3375 (by decide +kernel) j
theorem iZ_3408 (h : zF d L xs (I, J, P, N, n, z)) {j : Nat} : I 3408 j = 0 := h.2.2.2.2.1 3408 (by decide +kernel) j
theorem iZ_3440 (h : zF d L xs (I, J, P, N, n, z)) {j : Nat} : I 3440 j = 0 := h.2.2.2.2.1 3440 (by decide +kernel) j
theorem iZ_3472 (h : zF d L xs (I, J, P, N, n, z)) {j : Nat} : I 3472 j = 0 := h.2.2.2.2.1 3472 (by decide +kernel) j
theorem iZ_3567 (h : zF d L xs (I, J, P, N, n, z)) {j : Nat} : I 3567 j = 0 := h.2.2.2.2.1 3567 (by decide +kernel) j
theorem iZ_3600 (h : zF d L xs (I, J, P, N, n, z)) {j : Nat} : I 3600 j = 0 := h.2.2.2.2.1 3600 (by decide +kernel) j
theorem iZ_3632 (h : zF d L xs (I, J, P, N, n, z)) {j : Nat} : I 3632 j = 0 := h.2.2.2.2.1 3632 (by decide +kernel) j
theorem iZ_3664 (h : zF d L xs (I, J, P, N, n, z)) {j : Nat} : I 3664 j = 0 := h.2.2.2.2.1 3664 (by decide +kernel) j
theorem iZ_3728 (h : zF d L xs (I, J, P, N, n, z)) {j : Nat} : I 3728 j = 0 := h.2.2.2.2.1 3728 (by decide +kernel) j
theorem iZ_3760 (h : zF d L xs (I, J, P, N, n, z)) {j : Nat} : I 3760 j = 0 := h.2.2.2.2.1 3760 (by decide +kernel) j
theorem iZ_3792 (h : zF d L xs (I, J, P, N, n, z)) {j : Nat} : I 3792 j = 0 := h.2.2.2.2.1 3792 (by decide +kernel) j
theorem iZ_3856 (h : zF d L xs (I, J, P, N, n, z)) {j : Nat} : I 3856 j = 0 := h.2.2.2.2.1 3856 (by decide +kernel) j
theorem iZ_3888 (h : zF d L xs (I, J, P, N, n, z)) {j : Nat} : I 3888 j = 0 := h.2.2.2.2.1 3888 (by decide +kernel) j
theorem iZ_3920 (h : zF d L xs (I, J, P, N, n, z)) {j : Nat} : I 3920 j = 0 := h.2.2.2.2.1 3920 (by decide +kernel) j
theorem iZ_3952 (h : zF d L xs (I, J, P, N, n, z)) {j : Nat} : I 3952 j = 0 := h.2.2.2.2.1 3952 (by decide +kernel) j
theorem iZ_3984 (h : zF d L xs (I, J, P, N, n, z)) {j : Nat} : I 3984 j = 0 := h.2.2.2.2.1 3984 (by decide +kernel) j
theorem iZ_4048 (h : zF d L xs (I, J, P, N, n, z)) {j : Nat} : I 4048 j = 0 := h.2.2.2.2.1 4048 (by decide +kernel) j
theorem iZ_4080 (h : zF d L xs (I, J, P, N, n, z)) {j : Nat} : I 4080 j = 0 := h.2.2.2.2.1 4080 (by decide +kernel) j
theorem iZ_4112 (h : zF d L xs (I, J, P, N, n, z)) {j : Nat} : I 4112 j = 0 := h.2.2.2.2.1 4112 (by decide +kernel) j
theorem iZ_4144 (h : zF d L xs (I, J, P, N, n, z)) {j : Nat} : I 4144 j = 0 := h.2.2.2.2.1 4144 (by decide +kernel) j
theorem iZ_4338 (h : zF d L xs (I, J, P, N, n, z)) {j : Nat} : I 4338 j = 0 := h.2.2.2.2.1 4338 (by decide +kernel) j
theorem iZ_4368 (h : zF d L xs (I, J, P, N, n, z)) {j : Nat} : I 4368 j = 0 := h.2.2.2.2.1 4368 (by decide +kernel) j
theorem iZ_4432 (h : zF d L xs (I, J, P, N, n, z)) {j : Nat} : I 4432 j = 0 := h.2.2.2.2.1 4432 (by decide +kernel) j
theorem iZ_4464 (h : zF d L xs (I, J, P, N, n, z)) {j : Nat} : I 4464 j = 0 := h.2.2.2.2.1 4464 (by decide +kernel) j
theorem iZ_4495 (h : zF d L xs (I, J, P, N, n, z)) {j : Nat} : I 4495 j = 0 := h.2.2.2.2.1 4495 (by decide +kernel) j
theorem iZ_4528 (h : zF d L xs (I, J, P, N, n, z)) {j : Nat} : I 4528 j = 0 := h.2.2.2.2.1 4528 (by decide +kernel) j
theorem iZ_4559 (h : zF d L xs (I, J, P, N, n, z)) {j : Nat} : I 4559 j = 0 := h.2.2.2.2.1 4559 (by decide +kernel) j
theorem iZ_4592 (h : zF d L xs (I, J, P, N, n, z)) {j : Nat} : I 4592 j = 0 := h.2.2.2.2.1 4592 (by decide +kernel) j
theorem iZ_4624 (h : zF d L xs (I, J, P, N, n, z)) {j : Nat} : I 4624 j = 0 := h.2.2.2.2.1 4624 (by decide +kernel) j
theorem iZ_4656 (h : zF d L xs (I, J, P, N, n, z)) {j : Nat} : I 4656 j = 0 := h.2.2.2.2.1 4656 (by decide +kernel) j
theorem iZ_4688 (h : zF d L xs (I, J, P, N, n, z)) {j : Nat} : I 4688 j = 0 := h.2.2.2.2.1 4688 (by decide +kernel) j
theorem iZ_4720 (h : zF d L xs (I, J, P, N, n, z)) {j : Nat} : I 4720 j = 0 := h.2.2.2.2.1 4720 (by decide +kernel) j
theorem iZ_4752 (h : zF d L xs (I, J, P, N, n, z)) {j : Nat} : I 4752 j = 0 := h.2.2.2.2.1 4752 (by decide +kernel) j
theorem iZ_4784 (h : zF d L xs (I, J, P, N, n, z)) {j : Nat} : I 4784 j = 0 := h.2.2.2.2.1 4784 (by decide +kernel) j
theorem iZ_4816 (h : zF d L xs (I, J, P, N, n, z)) {j : Nat} : I 4816 j = 0 := h.2.2.2.2.1 4816 (by decide +kernel) j
theorem iZ_4848 (h : zF d L xs (I, J, P, N, n, z)) {j : Nat} : I 4848 j = 0 := h.2.2.2.2.1 4848 (by decide +kernel) j
theorem iZ_4880 (h : zF d L xs (I, J, P, N, n, z)) {j : Nat} : I 4880 j = 0 := h.2.2.2.2.1 4880 (by decide +kernel) j
theorem iZ_4944 (h : zF d L xs (I, J, P, N, n, z)) {j : Nat} : I 4944 j = 0 := h.2.2.2.2.1 4944 (by decide +kernel) j
theorem iZ_5008 (h : zF d L xs (I, J, P, N, n, z)) {j : Nat} : I 5008 j = 0 := h.2.2.2.2.1 5008 (by decide +kernel) j
theorem iZ_5040 (h : zF d L xs (I, J, P, N, n, z)) {j : Nat} : I 5040 j = 0 := h.2.2.2.2.1 5040 (by decide +kernel) j
theorem iZ_5072 (h : zF d L xs (I, J, P, N, n, z)) {j : Nat} : I 5072 j = 0 := h.2.2.2.2.1 5072 (by decide +kernel) j
theorem iZ_5103 (h : zF d L xs (I, J, P, N, n, z)) {j : Nat} : I 5103 j = 0 := h.2.2.2.2.1 5103 (by decide +kernel) j
theorem iZ_5136 (h : zF d L xs (I, J, P, N, n, z)) {j : Nat} : I 5136 j = 0 := h.2.2.2.2.1 5136 (by decide +kernel) j
theorem iZ_5168 (h : zF d L xs (I, J, P, N, n, z)) {j : Nat} : I 5168 j = 0 := h.2.2.2.2.1 5168 (by decide +kernel) j
theorem iZ_5232 (h : zF d L xs (I, J, P, N, n, z)) {j : Nat} : I 5232 j = 0 := h.2.2.2.2.1 5232 (by decide +kernel) j
theorem iZ_5264 (h : zF d L xs (I, J, P, N, n, z)) {j : Nat} : I 5264 j = 0 := h.2.2.2.2.1 5264 (by decide +kernel) j
theorem iZ_5296 (h : zF d L xs (I, J, P, N, n, z)) {j : Nat} : I 5296 j = 0 := h.2.2.2.2.1 5296 (by decide +kernel) j
theorem iZ_5328 (h : zF d L xs (I, J, P, N, n, z)) {j : Nat} : I 5328 j = 0 := h.2.2.2.2.1 5328 (by decide +kernel) j
theorem iZ_5360 (h : zF d L xs (I, J, P, N, n, z)) {j : Nat} : I 5360 j = 0 := h.2.2.2.2.1 5360 (by decide +kernel) j
theorem iZ_5392 (h : zF d L xs (I, J, P, N, n, z)) {j : Nat} : I 5392 j = 0 := h.2.2.2.2.1 5392 (by decide +kernel) j
theorem iZ_5424 (h : zF d L xs (I, J, P, N, n, z)) {j : Nat} : I 5424 j = 0 := h.2.2.2.2.1 5424 (by decide +kernel) j
theorem iZ_5455 (h : zF d L xs (I, J, P, N, n, z)) {j : Nat} : I 5455 j = 0 := h.2.2.2.2.1 5455 (by decide +kernel) j
theorem iZ_5488 (h : zF d L xs (I, J, P, N, n, z)) {j : Nat} : I 5488 j = 0 := h.2.2.2.2.1 5488 (by decide +kernel) j
theorem iZ_5552 (h : zF d L xs (I, J, P, N, n, z)) {j : Nat} : I 5552 j = 0 := h.2.2.2.2.1 5552 (by decide +kernel) j
theorem iZ_5584 (h : zF d L xs (I, J, P, N, n, z)) {j : Nat} : I 5584 j = 0 := h.2.2.2.2.1 5584 (by decide +kernel) j
theorem iZ_5616 (h : zF d L xs (I, J, P, N, n, z)) {j : Nat} : I 5616 j = 0 := h.2.2.2.2.1 5616 (by decide +kernel) j
theorem iZ_5648 (h : zF d L xs (I, J, P, N, n, z)) {j : Nat} : I 5648 j = 0 := h.2.2.2.2.1 5648 (by decide +kernel) j
theorem iZ_5680 (h : zF d L xs (I, J, P, N, n, z)) {j : Nat} : I 5680 j = 0 := h.2.2.2.2.1 5680 (by decide +kernel) j
theorem iZ_5712 (h : zF d L xs (I, J, P, N, n, z)) {j : Nat} : I 5712 j = 0 := h.2.2.2.2.1 5712 (by decide +kernel) j
theorem iZ_5744 (h : zF d L xs (I, J, P, N, n, z)) {j : Nat} : I 5744 j = 0 := h.2.2.2.2.1 5744 (by decide +kernel) j
theorem iZ_5776 (h : zF d L xs (I, J, P, N, n, z)) {j : Nat} : I 5776 j = 0 := h.2.2.2.2.1 5776 (by decide +kernel) j
theorem iZ_5808 (h : zF d L xs (I, J, P, N, n, z)) {j : Nat} : I 5808 j = 0 := h.2.2.2.2.1 5808 (by decide +kernel) j
theorem iZ_5840 (h : zF d L xs (I, J, P, N, n, z)) {j : Nat} : I 5840 j = 0 := h.2.2.2.2.1 5840 (by decide +kernel) j
theorem iZ_5872 (h : zF d L xs (I, J, P, N, n, z)) {j : Nat} : I 5872 j = 0 := h.2.2.2.2.1 5872 (by decide +kernel) j
theorem iZ_5936 (h : zF d L xs (I, J, P, N, n, z)) {j : Nat} : I 5936 j = 0 := h.2.2.2.2.1 5936 (by decide +kernel) j
theorem iZ_5968 (h : zF d L xs (I, J, P, N, n, z)) {j : Nat} : I 5968 j = 0 := h.2.2.2.2.1 5968 (by decide +kernel) j
theorem iZ_5999 (h : zF d L xs (I, J, P, N, n, z)) {j : Nat} : I 5999 j = 0 := h.2.2.2.2.1 5999 (by decide +kernel) j
theorem iZ_6032 (h : zF d L xs (I, J, P, N, n, z)) {j : Nat} : I 6032 j = 0 := h.2.2.2.2.1 6032 (by decide +kernel) j
theorem iZ_6064 (h : zF d L xs (I, J, P, N, n, z)) {j : Nat} : I 6064 j = 0 := h.2.2.2.2.1 6064 (by decide +kernel) j
theorem iZ_6096 (h : zF d L xs (I, J, P, N, n, z)) {j : Nat} : I 6096 j = 0 := h.2.2.2.2.1 6096 (by decide +kernel) j
theorem iZ_6128 (h : zF d L xs (I, J, P, N, n, z)) {j : Nat} : I 6128 j = 0 := h.2.2.2.2.1 6128 (by decide +kernel) j
theorem iZ_6160 (h : zF d L xs (I, J, P, N, n, z)) {j : Nat} : I 6160 j = 0 := h.2.2.2.2.1 6160 (by decide +kernel) j
theorem iZ_6192 (h : zF d L xs (I, J, P, N, n, z)) {j : Nat} : I 6192 j = 0 := h.2.2.2.2.1 6192 (by decide +kernel) j
theorem iZ_6256 (h : zF d L xs (I, J, P, N, n, z)) {j : Nat} : I 6256 j = 0 := h.2.2.2.2.1 6256 (by decide +kernel) j
theorem iZ_6288 (h : zF d L xs (I, J, P, N, n, z)) {j : Nat} : I 6288 j = 0 := h.2.2.2.2.1 6288 (by decide +kernel) j
theorem iZ_6320 (h : zF d L xs (I, J, P, N, n, z)) {j : Nat} : I 6320 j = 0 := h.2.2.2.2.1 6320 (by decide +kernel) j
theorem iZ_6352 (h : zF d L xs (I, J, P, N, n, z)) {j : Nat} : I 6352 j = 0 := h.2.2.2.2.1 6352 (by decide +kernel) j
theorem iZ_6383 (h : zF d L xs (I, J, P, N, n, z)) {j : Nat} : I 6383 j = 0 := h.2.2.2.2.1 6383 (by decide +kernel) j
theorem iZJ_209 (h : zF d L xs (I, J, P, N, n, z)) {j : Nat} : J 209 j = 0 := h.2.2.2.2.2.1 209 (by decide +kernel) j
theorem iZJ_497 (h : zF d L xs (I, J, P, N, n, z)) {j : Nat} : J 497 j = 0 := h.2.2.2.2.2.1 497 (by decide +kernel) j
theorem iZJ_977 (h : zF d L xs (I, J, P, N, n, z)) {j : Nat} : J 977 j = 0 := h.2.2.2.2.2.1 977 (by decide +kernel) j
theorem iZJ_1009 (h : zF d L xs (I, J, P, N, n, z)) {j : Nat} : J 1009 j = 0 := h.2.2.2.2.2.1 1009 (by decide +kernel) j
theorem iZJ_1169 (h : zF d L xs (I, J, P, N, n, z)) {j : Nat} : J 1169 j = 0 := h.2.2.2.2.2.1 1169 (by decide +kernel) j
theorem iZJ_1201 (h : zF d L xs (I, J, P, N, n, z)) {j : Nat} : J 1201 j = 0 := h.2.2.2.2.2.1 1201 (by decide +kernel) j
theorem iZJ_1297 (h : zF d L xs (I, J, P, N, n, z)) {j : Nat} : J 1297 j = 0 := h.2.2.2.2.2.1 1297 (by decide +kernel) j
theorem iZJ_1329 (h : zF d L xs (I, J, P, N, n, z)) {j : Nat} : J 1329 j = 0 := h.2.2.2.2.2.1 1329 (by decide +kernel) j
theorem iZJ_1425 (h : zF d L xs (I, J, P, N, n, z)) {j : Nat} : J 1425 j = 0 := h.2.2.2.2.2.1 1425 (by decide +kernel) j
theorem iZJ_1457 (h : zF d L xs (I, J, P, N, n, z)) {j : Nat} : J 1457 j = 0 := h.2.2.2.2.2.1 1457 (by decide +kernel) j
theorem iZJ_1553 (h : zF d L xs (I, J, P, N, n, z)) {j : Nat} : J 1553 j = 0 := h.2.2.2.2.2.1 1553 (by decide +kernel) j
theorem iZJ_1585 (h : zF d L xs (I, J, P, N, n, z)) {j : Nat} : J 1585 j = 0 := h.2.2.2.2.2.1 1585 (by decide +kernel) j
theorem iZJ_1681 (h : zF d L xs (I, J, P, N, n, z)) {j : Nat} : J 1681 j = 0 := h.2.2.2.2.2.1 1681 (by decide +kernel) j
theorem iZJ_1713 (h : zF d L xs (I, J, P, N, n, z)) {j : Nat} : J 1713 j = 0 := h.2.2.2.2.2.1 1713 (by decide +kernel) j
theorem iZJ_1809 (h : zF d L xs (I, J, P, N, n, z)) {j : Nat} : J 1809 j = 0 := h.2.2.2.2.2.1 1809 (by decide +kernel) j
theorem iZJ_1841 (h : zF d L xs (I, J, P, N, n, z)) {j : Nat} : J 1841 j = 0 := h.2.2.2.2.2.1 1841 (by decide +kernel) j
theorem iZJ_1937 (h : zF d L xs (I, J, P, N, n, z)) {j : Nat} : J 1937 j = 0 := h.2.2.2.2.2.1 1937 (by decide +kernel) j
theorem iZJ_1969 (h : zF d L xs (I, J, P, N, n, z)) {j : Nat} : J 1969 j = 0 := h.2.2.2.2.2.1 1969 (by decide +kernel) j
theorem iZJ_2065 (h : zF d L xs (I, J, P, N, n, z)) {j : Nat} : J 2065 j = 0 := h.2.2.2.2.2.1 2065 (by decide +kernel) j
theorem iZJ_2097 (h : zF d L xs (I, J, P, N, n, z)) {j : Nat} : J 2097 j = 0 := h.2.2.2.2.2.1 2097 (by decide +kernel) j
theorem iZJ_2193 (h : zF d L xs (I, J, P, N, n, z)) {j : Nat} : J 2193 j = 0 := h.2.2.2.2.2.1 2193 (by decide +kernel) j
theorem iZJ_2353 (h : zF d L xs (I, J, P, N, n, z)) {j : Nat} : J 2353 j = 0 := h.2.2.2.2.2.1 2353 (by decide +kernel) j
theorem iZJ_2385 (h : zF d L xs (I, J, P, N, n, z)) {j : Nat} : J 2385 j = 0 := h.2.2.2.2.2.1 2385 (by decide +kernel) j
theorem iZJ_2481 (h : zF d L xs (I, J, P, N, n, z)) {j : Nat} : J 2481 j = 0 := h.2.2.2.2.2.1 2481 (by decide +kernel) j
theorem iZJ_2513 (h : zF d L xs (I, J, P, N, n, z)) {j : Nat} : J 2513 j = 0 := h.2.2.2.2.2.1 2513 (by decide +kernel) j
theorem iZJ_2609 (h : zF d L xs (I, J, P, N, n, z)) {j : Nat} : J 2609 j = 0 := h.2.2.2.2.2.1 2609 (by decide +kernel) j
theorem iZJ_2833 (h : zF d L xs (I, J, P, N, n, z)) {j : Nat} : J 2833 j = 0 := h.2.2.2.2.2.1 2833 (by decide +kernel) j
theorem iZJ_3345 (h : zF d L xs (I, J, P, N, n, z)) {j : Nat} : J 3345 j = 0 := h.2.2.2.2.2.1 3345 (by decide +kernel) j
theorem iZJ_3505 (h : zF d L xs (I, J, P, N, n, z)) {j : Nat} : J 3505 j = 0 := h.2.2.2.2.2.1 3505 (by decide +kernel) j
theorem iZJ_3537 (h : zF d L xs (I, J, P, N, n, z)) {j : Nat} : J 3537 j = 0 := h.2.2.2.2.2.1 3537 (by decide +kernel) j
theorem iZJ_3697 (h : zF d L xs (I, J, P, N, n, z)) {j : Nat} : J 3697 j = 0 := h.2.2.2.2.2.1 3697 (by decide +kernel) j
theorem iZJ_3825 (h : zF d L xs (I, J, P, N, n, z)) {j : Nat} : J 3825 j = 0 := h.2.2.2.2.2.1 3825 (by decide +kernel) j
theorem iZJ_4017 (h : zF d L xs (I, J, P, N, n, z)) {j : Nat} : J 4017 j = 0 := h.2.2.2.2.2.1 4017 (by decide +kernel) j
theorem iZJ_4177 (h : zF d L xs (I, J, P, N, n, z)) {j : Nat} : J 4177 j = 0 := h.2.2.2.2.2.1 4177 (by decide +kernel) j
theorem iZJ_4209 (h : zF d L xs (I, J, P, N, n, z)) {j : Nat} : J 4209 j = 0 := h.2.2.2.2.2.1 4209 (by decide +kernel) j
theorem iZJ_4241 (h : zF d L xs (I, J, P, N, n, z)) {j : Nat} : J 4241 j = 0 := h.2.2.2.2.2.1 4241 (by decide +kernel) j
theorem iZJ_4273 (h : zF d L xs (I, J, P, N, n, z)) {j : Nat} : J 4273 j = 0 := h.2.2.2.2.2.1 4273 (by decide +kernel) j
theorem iZJ_4401 (h : zF d L xs (I, J, P, N, n, z)) {j : Nat} : J 4401 j = 0 := h.2.2.2.2.2.1 4401 (by decide +kernel) j
theorem iZJ_4977 (h : zF d L xs (I, J, P, N, n, z)) {j : Nat} : J 4977 j = 0 := h.2.2.2.2.2.1 4977 (by decide +kernel) j
theorem iZJ_5201 (h : zF d L xs (I, J, P, N, n, z)) {j : Nat} : J 5201 j = 0 := h.2.2.2.2.2.1 5201 (by decide +kernel) j
theorem iZJ_5521 (h : zF d L xs (I, J, P, N, n, z)) {j : Nat} : J 5521 j = 0 := h.2.2.2.2.2.1 5521 (by decide +kernel) j
theorem iZJ_5905 (h : zF d L xs (I, J, P, N, n, z)) {j : Nat} : J 5905 j = 0 := h.2.2.2.2.2.1 5905 (by decide +kernel) j
theorem iZJ_6225 (h : zF d L xs (I, J, P, N, n, z)) {j : Nat} : J 6225 j = 0 := h.2.2.2.2.2.1 6225 (by decide +kernel) j
theorem iZJ_6417 (h : zF d L xs (I, J, P, N, n, z)) {j : Nat} : J 6417 j = 0 := h.2.2.2.2.2.1 6417 (by decide +kernel) j
theorem iZP_2164 (h : zF d L xs (I, J, P, N, n, z)) {j : Nat} : P 2164 j = none := h.2.2.2.2.2.2.1 2164 (by decide +kernel) j
theorem iZP_3061 (h : zF d L xs (I, J, P, N, n, z)) {j : Nat} : P 3061 j = none := h.2.2.2.2.2.2.1 3061 (by decide +kernel) j
theorem iD_2115 (h : zF d L xs (I, J, P, N, n, z)) : I 2115 1 = d := h.2.2.2.2.2.2.2.1
theorem iD_3118 (h : zF d L xs (I, J, P, N, n, z)) : I 3118 0 = d := h.2.2.2.2.2.2.2.2.1
theorem zF_stat (h : zF d L xs (I, J, P, N, n, z)) : zStat P N := ⟨fun e he => h.1 e ((by decide +kernel : ∀ e ∈ fPs, e ∈ fP) e he), h.2.1⟩
theorem zF_scr (h : zF d L xs (I, J, P, N, n, z)) : zScr L xs (I, J, P, N, n, z) := ⟨h.2.2.2.2.2.2.2.2.2.2.2.2.1, fun j => congrFun h.2.2.2.2.2.2.2.2.2.2.2.1 j, h.2.1 (6417, 1) (by decide +kernel)⟩
theorem zF_n (h : zF d L xs (I, J, P, N, n, z)) : n = 201 := h.2.2.2.2.2.2.2.2.2.1
theorem zF_z (h : zF d L xs (I, J, P, N, n, z)) : z = 1542900 := h.2.2.2.2.2.2.2.2.2.2.1
theorem zF_tk (h : zF d L xs (I, J, P, N, n, z)) : N 54 = 32 ∧ (∀ j, I 54 j = zTK0 j) := ⟨h.2.2.2.2.2.2.2.2.2.2.2.2.2.2.1, fun j => congrFun h.2.2.2.2.2.2.2.2.2.2.2.2.2.1 j⟩
theorem zF_31 (h : zF d L xs (I, J, P, N, n, z)) : N 31 = 0 := h.2.2.2.2.2.2.2.2.2.2.2.2.2.2.2
end
