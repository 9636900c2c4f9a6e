set_option maxRecDepth 1000000 in
theorem zk25 : zck 25 = true := by decide +kernel
set_option maxRecDepth 1000000 in
theorem zk26 : zck 26 = true := by decide +kernel
set_option maxRecDepth 1000000 in
theorem zk27 : zck 27 = true := by decide +kernel
set_option maxRecDepth 1000000 in
theorem zk28 : zck 28 = true := by decide +kernel
set_option maxRecDepth 1000000 in
theorem zk29 : zck 29 = true := by decide +kernel
set_option maxRecDepth 1000000 in
theorem zk30 : zck 30 = true := by decide +kernel
set_option maxRecDepth 1000000 in
theorem zk31 : zck 31 = true := by decide +kernel
set_option maxRecDepth 1000000 in
theorem zk32 : zck 32 = true := by decide +kernel
set_option maxRecDepth 1000000 in
theorem zk33 : zck 33 = true := by decide +kernel
set_option maxRecDepth 1000000 in
theorem zk34 : zck 34 = true := by decide +kernel
set_option maxRecDepth 1000000 in
theorem zk35 : zck 35 = true := by decide +kernel
set_option maxRecDepth 1000000 in
theorem zk36 : zck 36 = true := by decide +kernel
set_option maxRecDepth 1000000 in
theorem zk37 : zck 37 = true := by decide +kernel
set_option maxRecDepth 1000000 in
theorem zk38 : zck 38 = true := by decide +kernel
set_option maxRecDepth 1000000 in
theorem zk39 : zck 39 = true := by decide +kernel
set_option maxRecDepth 1000000 in
theorem zk40 : zck 40 = true := by decide +kernel
set_option maxRecDepth 1000000 in
theorem zk41 : zck 41 = true := by decide +kernel
set_option maxRecDepth 1000000 in
theorem zk42 : zck 42 = true := by decide +kernel
set_option maxRecDepth 1000000 in
theorem zk43 : zck 43 = true := by decide +kernel
set_option maxRecDepth 1000000 in
theorem zk44 : zck 44 = true := by decide +kernel
set_option maxRecDepth 1000000 in
theorem zk45 : zck 45 = true := by decide +kernel
set_option maxRecDepth 1000000 in
theorem zk46 : zck 46 = true := by decide +kernel
set_option maxRecDepth 1000000 in
theorem zk47 : zck 47 = true := by decide +kernel
set_option maxRecDepth 1000000 in
theorem zk48 : zck 48 = true := by decide +kernel
set_option maxRecDepth 1000000 in
theorem zk49 : zck 49 = true := by decide +kernel
set_option maxRecDepth 1000000 in
theorem zk50 : zck 50 = true := by decide +kernel
set_option maxRecDepth 1000000 in
theorem zk51 : zck 51 = true := by decide +kernel
set_option maxRecDepth 1000000 in
theorem zk52 : zck 52 = true := by decide +kernel
set_option maxRecDepth 1000000 in
theorem zk53 : zck 53 = true := by decide +kernel
