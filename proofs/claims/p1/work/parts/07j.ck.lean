set_option maxRecDepth 1000000 in
theorem zk233 : zck 233 = true := by decide +kernel
set_option maxRecDepth 1000000 in
theorem zk234 : zck 234 = true := by decide +kernel
set_option maxRecDepth 1000000 in
theorem zk235 : zck 235 = true := by decide +kernel
set_option maxRecDepth 1000000 in
theorem zk236 : zck 236 = true := by decide +kernel
set_option maxRecDepth 1000000 in
theorem zk237 : zck 237 = true := by decide +kernel
set_option maxRecDepth 1000000 in
theorem zk238 : zck 238 = true := by decide +kernel
set_option maxRecDepth 1000000 in
theorem zk239 : zck 239 = true := by decide +kernel
set_option maxRecDepth 1000000 in
theorem zk240 : zck 240 = true := by decide +kernel
set_option maxRecDepth 1000000 in
theorem zk241 : zck 241 = true := by decide +kernel
set_option maxRecDepth 1000000 in
theorem zk242 : zck 242 = true := by decide +kernel
set_option maxRecDepth 1000000 in
theorem zk243 : zck 243 = true := by decide +kernel
set_option maxRecDepth 1000000 in
theorem zk244 : zck 244 = true := by decide +kernel
set_option maxRecDepth 1000000 in
theorem zk245 : zck 245 = true := by decide +kernel
set_option maxRecDepth 1000000 in
theorem zk246 : zck 246 = true := by decide +kernel
set_option maxRecDepth 1000000 in
theorem zk247 : zck 247 = true := by decide +kernel
set_option maxRecDepth 1000000 in
theorem zk248 : zck 248 = true := by decide +kernel
set_option maxRecDepth 1000000 in
theorem zk249 : zck 249 = true := by decide +kernel
set_option maxRecDepth 1000000 in
theorem zk250 : zck 250 = true := by decide +kernel
