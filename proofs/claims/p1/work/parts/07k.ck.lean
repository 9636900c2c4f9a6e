set_option maxRecDepth 1000000 in
theorem zk251 : zck 251 = true := by decide +kernel
set_option maxRecDepth 1000000 in
theorem zk252 : zck 252 = true := by decide +kernel
set_option maxRecDepth 1000000 in
theorem zk253 : zck 253 = true := by decide +kernel
set_option maxRecDepth 1000000 in
theorem zk254 : zck 254 = true := by decide +kernel
set_option maxRecDepth 1000000 in
theorem zk255 : zck 255 = true := by decide +kernel
set_option maxRecDepth 1000000 in
theorem zk256 : zck 256 = true := by decide +kernel
set_option maxRecDepth 1000000 in
theorem zk257 : zck 257 = true := by decide +kernel
set_option maxRecDepth 1000000 in
theorem zk258 : zck 258 = true := by decide +kernel
set_option maxRecDepth 1000000 in
theorem zk259 : zck 259 = true := by decide +kernel
set_option maxRecDepth 1000000 in
theorem zk260 : zck 260 = true := by decide +kernel
set_option maxRecDepth 1000000 in
theorem zk261 : zck 261 = true := by decide +kernel
set_option maxRecDepth 1000000 in
theorem zk262 : zck 262 = true := by decide +kernel
set_option maxRecDepth 1000000 in
theorem zk263 : zck 263 = true := by decide +kernel
set_option maxRecDepth 1000000 in
theorem zk264 : zck 264 = true := by decide +kernel
set_option maxRecDepth 1000000 in
theorem zk265 : zck 265 = true := by decide +kernel
set_option maxRecDepth 1000000 in
theorem zk266 : zck 266 = true := by decide +kernel
set_option maxRecDepth 1000000 in
theorem zk267 : zck 267 = true := by decide +kernel
set_option maxRecDepth 1000000 in
theorem zk268 : zck 268 = true := by decide +kernel
set_option maxRecDepth 1000000 in
theorem zk269 : zck 269 = true := by decide +kernel
