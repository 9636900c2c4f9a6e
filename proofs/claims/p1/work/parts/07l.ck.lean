set_option maxRecDepth 1000000 in
theorem zk270 : zck 270 = true := by decide +kernel
set_option maxRecDepth 1000000 in
theorem zk271 : zck 271 = true := by decide +kernel
set_option maxRecDepth 1000000 in
theorem zk272 : zck 272 = true := by decide +kernel
set_option maxRecDepth 1000000 in
theorem zk273 : zck 273 = true := by decide +kernel
set_option maxRecDepth 1000000 in
theorem zk274 : zck 274 = true := by decide +kernel
set_option maxRecDepth 1000000 in
theorem zk275 : zck 275 = true := by decide +kernel
set_option maxRecDepth 1000000 in
theorem zk276 : zck 276 = true := by decide +kernel
set_option maxRecDepth 1000000 in
theorem zk277 : zck 277 = true := by decide +kernel
set_option maxRecDepth 1000000 in
theorem zk278 : zck 278 = true := by decide +kernel
set_option maxRecDepth 1000000 in
theorem zk279 : zck 279 = true := by decide +kernel
set_option maxRecDepth 1000000 in
theorem zk280 : zck 280 = true := by decide +kernel
set_option maxRecDepth 1000000 in
theorem zk281 : zck 281 = true := by decide +kernel
set_option maxRecDepth 1000000 in
theorem zk282 : zck 282 = true := by decide +kernel
