set_option maxRecDepth 1000000 in
theorem zk81 : zck 81 = true := by decide +kernel
set_option maxRecDepth 1000000 in
theorem zk82 : zck 82 = true := by decide +kernel
set_option maxRecDepth 1000000 in
theorem zk83 : zck 83 = true := by decide +kernel
set_option maxRecDepth 1000000 in
theorem zk84 : zck 84 = true := by decide +kernel
set_option maxRecDepth 1000000 in
theorem zk85 : zck 85 = true := by decide +kernel
set_option maxRecDepth 1000000 in
theorem zk86 : zck 86 = true := by decide +kernel
set_option maxRecDepth 1000000 in
theorem zk87 : zck 87 = true := by decide +kernel
set_option maxRecDepth 1000000 in
theorem zk88 : zck 88 = true := by decide +kernel
set_option maxRecDepth 1000000 in
theorem zk89 : zck 89 = true := by decide +kernel
set_option maxRecDepth 1000000 in
theorem zk90 : zck 90 = true := by decide +kernel
set_option maxRecDepth 1000000 in
theorem zk91 : zck 91 = true := by decide +kernel
set_option maxRecDepth 1000000 in
theorem zk92 : zck 92 = true := by decide +kernel
set_option maxRecDepth 1000000 in
theorem zk93 : zck 93 = true := by decide +kernel
set_option maxRecDepth 1000000 in
theorem zk94 : zck 94 = true := by decide +kernel
set_option maxRecDepth 1000000 in
theorem zk95 : zck 95 = true := by decide +kernel
set_option maxRecDepth 1000000 in
theorem zk96 : zck 96 = true := by decide +kernel
set_option maxRecDepth 1000000 in
theorem zk97 : zck 97 = true := by decide +kernel
set_option maxRecDepth 1000000 in
theorem zk98 : zck 98 = true := by decide +kernel
set_option maxRecDepth 1000000 in
theorem zk99 : zck 99 = true := by decide +kernel
set_option maxRecDepth 1000000 in
theorem zk100 : zck 100 = true := by decide +kernel
set_option maxRecDepth 1000000 in
theorem zk101 : zck 101 = true := by decide +kernel
set_option maxRecDepth 1000000 in
theorem zk102 : zck 102 = true := by decide +kernel
set_option maxRecDepth 1000000 in
theorem zk103 : zck 103 = true := by decide +kernel
set_option maxRecDepth 1000000 in
theorem zk104 : zck 104 = true := by decide +kernel
set_option maxRecDepth 1000000 in
theorem zk105 : zck 105 = true := by decide +kernel
set_option maxRecDepth 1000000 in
theorem zk106 : zck 106 = true := by decide +kernel
set_option maxRecDepth 1000000 in
theorem zk107 : zck 107 = true := by decide +kernel
set_option maxRecDepth 1000000 in
theorem zk108 : zck 108 = true := by decide +kernel
set_option maxRecDepth 1000000 in
theorem zk109 : zck 109 = true := by decide +kernel
set_option maxRecDepth 1000000 in
theorem zk110 : zck 110 = true := by decide +kernel
set_option maxRecDepth 1000000 in
theorem zk111 : zck 111 = true := by decide +kernel
set_option maxRecDepth 1000000 in
theorem zk112 : zck 112 = true := by decide +kernel
set_option maxRecDepth 1000000 in
theorem zk113 : zck 113 = true := by decide +kernel
set_option maxRecDepth 1000000 in
theorem zk114 : zck 114 = true := by decide +kernel
set_option maxRecDepth 1000000 in
theorem zk115 : zck 115 = true := by decide +kernel
