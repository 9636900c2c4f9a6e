set_option maxRecDepth 1000000 in
theorem zk54 : zck 54 = true := by decide +kernel
set_option maxRecDepth 1000000 in
theorem zk55 : zck 55 = true := by decide +kernel
set_option maxRecDepth 1000000 in
theorem zk56 : zck 56 = true := by decide +kernel
set_option maxRecDepth 1000000 in
theorem zk57 : zck 57 = true := by decide +kernel
set_option maxRecDepth 1000000 in
theorem zk58 : zck 58 = true := by decide +kernel
set_option maxRecDepth 1000000 in
theorem zk59 : zck 59 = true := by decide +kernel
set_option maxRecDepth 1000000 in
theorem zk60 : zck 60 = true := by decide +kernel
set_option maxRecDepth 1000000 in
theorem zk61 : zck 61 = true := by decide +kernel
set_option maxRecDepth 1000000 in
theorem zk62 : zck 62 = true := by decide +kernel
set_option maxRecDepth 1000000 in
theorem zk63 : zck 63 = true := by decide +kernel
set_option maxRecDepth 1000000 in
theorem zk64 : zck 64 = true := by decide +kernel
set_option maxRecDepth 1000000 in
theorem zk65 : zck 65 = true := by decide +kernel
set_option maxRecDepth 1000000 in
theorem zk66 : zck 66 = true := by decide +kernel
set_option maxRecDepth 1000000 in
theorem zk67 : zck 67 = true := by decide +kernel
set_option maxRecDepth 1000000 in
theorem zk68 : zck 68 = true := by decide +kernel
set_option maxRecDepth 1000000 in
theorem zk69 : zck 69 = true := by decide +kernel
set_option maxRecDepth 1000000 in
theorem zk70 : zck 70 = true := by decide +kernel
set_option maxRecDepth 1000000 in
theorem zk71 : zck 71 = true := by decide +kernel
set_option maxRecDepth 1000000 in
theorem zk72 : zck 72 = true := by decide +kernel
set_option maxRecDepth 1000000 in
theorem zk73 : zck 73 = true := by decide +kernel
set_option maxRecDepth 1000000 in
theorem zk74 : zck 74 = true := by decide +kernel
set_option maxRecDepth 1000000 in
theorem zk75 : zck 75 = true := by decide +kernel
set_option maxRecDepth 1000000 in
theorem zk76 : zck 76 = true := by decide +kernel
set_option maxRecDepth 1000000 in
theorem zk77 : zck 77 = true := by decide +kernel
set_option maxRecDepth 1000000 in
theorem zk78 : zck 78 = true := by decide +kernel
set_option maxRecDepth 1000000 in
theorem zk79 : zck 79 = true := by decide +kernel
set_option maxRecDepth 1000000 in
theorem zk80 : zck 80 = true := by decide +kernel
