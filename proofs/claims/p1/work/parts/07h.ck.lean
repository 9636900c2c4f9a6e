set_option maxRecDepth 1000000 in
theorem zk202 : zck 202 = true := by decide +kernel
set_option maxRecDepth 1000000 in
theorem zk203 : zck 203 = true := by decide +kernel
set_option maxRecDepth 1000000 in
theorem zk204 : zck 204 = true := by decide +kernel
set_option maxRecDepth 1000000 in
theorem zk205 : zck 205 = true := by decide +kernel
set_option maxRecDepth 1000000 in
theorem zk206 : zck 206 = true := by decide +kernel
set_option maxRecDepth 1000000 in
theorem zk207 : zck 207 = true := by decide +kernel
set_option maxRecDepth 1000000 in
theorem zk208 : zck 208 = true := by decide +kernel
set_option maxRecDepth 1000000 in
theorem zk209 : zck 209 = true := by decide +kernel
set_option maxRecDepth 1000000 in
theorem zk210 : zck 210 = true := by decide +kernel
set_option maxRecDepth 1000000 in
theorem zk211 : zck 211 = true := by decide +kernel
set_option maxRecDepth 1000000 in
theorem zk212 : zck 212 = true := by decide +kernel
set_option maxRecDepth 1000000 in
theorem zk213 : zck 213 = true := by decide +kernel
