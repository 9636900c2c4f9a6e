set_option maxRecDepth 1000000 in
theorem zk116 : zck 116 = true := by decide +kernel
set_option maxRecDepth 1000000 in
theorem zk117 : zck 117 = true := by decide +kernel
set_option maxRecDepth 1000000 in
theorem zk118 : zck 118 = true := by decide +kernel
set_option maxRecDepth 1000000 in
theorem zk119 : zck 119 = true := by decide +kernel
set_option maxRecDepth 1000000 in
theorem zk120 : zck 120 = true := by decide +kernel
set_option maxRecDepth 1000000 in
theorem zk121 : zck 121 = true := by decide +kernel
set_option maxRecDepth 1000000 in
theorem zk122 : zck 122 = true := by decide +kernel
set_option maxRecDepth 1000000 in
theorem zk123 : zck 123 = true := by decide +kernel
set_option maxRecDepth 1000000 in
theorem zk124 : zck 124 = true := by decide +kernel
set_option maxRecDepth 1000000 in
theorem zk125 : zck 125 = true := by decide +kernel
set_option maxRecDepth 1000000 in
theorem zk126 : zck 126 = true := by decide +kernel
set_option maxRecDepth 1000000 in
theorem zk127 : zck 127 = true := by decide +kernel
set_option maxRecDepth 1000000 in
theorem zk128 : zck 128 = true := by decide +kernel
set_option maxRecDepth 1000000 in
theorem zk129 : zck 129 = true := by decide +kernel
set_option maxRecDepth 1000000 in
theorem zk130 : zck 130 = true := by decide +kernel
set_option maxRecDepth 1000000 in
theorem zk131 : zck 131 = true := by decide +kernel
set_option maxRecDepth 1000000 in
theorem zk132 : zck 132 = true := by decide +kernel
set_option maxRecDepth 1000000 in
theorem zk133 : zck 133 = true := by decide +kernel
set_option maxRecDepth 1000000 in
theorem zk134 : zck 134 = true := by decide +kernel
set_option maxRecDepth 1000000 in
theorem zk135 : zck 135 = true := by decide +kernel
set_option maxRecDepth 1000000 in
theorem zk136 : zck 136 = true := by decide +kernel
set_option maxRecDepth 1000000 in
theorem zk137 : zck 137 = true := by decide +kernel
set_option maxRecDepth 1000000 in
theorem zk138 : zck 138 = true := by decide +kernel
set_option maxRecDepth 1000000 in
theorem zk139 : zck 139 = true := by decide +kernel
set_option maxRecDepth 1000000 in
theorem zk140 : zck 140 = true := by decide +kernel
set_option maxRecDepth 1000000 in
theorem zk141 : zck 141 = true := by decide +kernel
set_option maxRecDepth 1000000 in
theorem zk142 : zck 142 = true := by decide +kernel
