set_option maxRecDepth 1000000 in
theorem zk0 : zck 0 = true := by decide +kernel
set_option maxRecDepth 1000000 in
theorem zk1 : zck 1 = true := by decide +kernel
set_option maxRecDepth 1000000 in
theorem zk2 : zck 2 = true := by decide +kernel
set_option maxRecDepth 1000000 in
theorem zk3 : zck 3 = true := by decide +kernel
set_option maxRecDepth 1000000 in
theorem zk4 : zck 4 = true := by decide +kernel
set_option maxRecDepth 1000000 in
theorem zk5 : zck 5 = true := by decide +kernel
set_option maxRecDepth 1000000 in
theorem zk6 : zck 6 = true := by decide +kernel
set_option maxRecDepth 1000000 in
theorem zk7 : zck 7 = true := by decide +kernel
set_option maxRecDepth 1000000 in
theorem zk8 : zck 8 = true := by decide +kernel
set_option maxRecDepth 1000000 in
theorem zk9 : zck 9 = true := by decide +kernel
set_option maxRecDepth 1000000 in
theorem zk10 : zck 10 = true := by decide +kernel
set_option maxRecDepth 1000000 in
theorem zk11 : zck 11 = true := by decide +kernel
set_option maxRecDepth 1000000 in
theorem zk12 : zck 12 = true := by decide +kernel
set_option maxRecDepth 1000000 in
theorem zk13 : zck 13 = true := by decide +kernel
set_option maxRecDepth 1000000 in
theorem zk14 : zck 14 = true := by decide +kernel
set_option maxRecDepth 1000000 in
theorem zk15 : zck 15 = true := by decide +kernel
set_option maxRecDepth 1000000 in
theorem zk16 : zck 16 = true := by decide +kernel
set_option maxRecDepth 1000000 in
theorem zk17 : zck 17 = true := by decide +kernel
set_option maxRecDepth 1000000 in
theorem zk18 : zck 18 = true := by decide +kernel
set_option maxRecDepth 1000000 in
theorem zk19 : zck 19 = true := by decide +kernel
set_option maxRecDepth 1000000 in
theorem zk20 : zck 20 = true := by decide +kernel
set_option maxRecDepth 1000000 in
theorem zk21 : zck 21 = true := by decide +kernel
set_option maxRecDepth 1000000 in
theorem zk22 : zck 22 = true := by decide +kernel
set_option maxRecDepth 1000000 in
theorem zk23 : zck 23 = true := by decide +kernel
set_option maxRecDepth 1000000 in
theorem zk24 : zck 24 = true := by decide +kernel
