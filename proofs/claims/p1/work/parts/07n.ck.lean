set_option maxRecDepth 1000000 in
theorem zk299 : zck 299 = true := by decide +kernel
set_option maxRecDepth 1000000 in
theorem zk300 : zck 300 = true := by decide +kernel
set_option maxRecDepth 1000000 in
theorem zk301 : zck 301 = true := by decide +kernel
set_option maxRecDepth 1000000 in
theorem zk302 : zck 302 = true := by decide +kernel
set_option maxRecDepth 1000000 in
theorem zk303 : zck 303 = true := by decide +kernel
set_option maxRecDepth 1000000 in
theorem zk304 : zck 304 = true := by decide +kernel
set_option maxRecDepth 1000000 in
theorem zk305 : zck 305 = true := by decide +kernel
set_option maxRecDepth 1000000 in
theorem zk306 : zck 306 = true := by decide +kernel
set_option maxRecDepth 1000000 in
theorem zk307 : zck 307 = true := by decide +kernel
set_option maxRecDepth 1000000 in
theorem zk308 : zck 308 = true := by decide +kernel
set_option maxRecDepth 1000000 in
theorem zk309 : zck 309 = true := by decide +kernel
set_option maxRecDepth 1000000 in
theorem zk310 : zck 310 = true := by decide +kernel
set_option maxRecDepth 1000000 in
theorem zk311 : zck 311 = true := by decide +kernel
set_option maxRecDepth 1000000 in
theorem zk312 : zck 312 = true := by decide +kernel
set_option maxRecDepth 1000000 in
theorem zk313 : zck 313 = true := by decide +kernel
set_option maxRecDepth 1000000 in
theorem zk314 : zck 314 = true := by decide +kernel
set_option maxRecDepth 1000000 in
theorem zk315 : zck 315 = true := by decide +kernel
set_option maxRecDepth 1000000 in
theorem zk316 : zck 316 = true := by decide +kernel
set_option maxRecDepth 1000000 in
theorem zk317 : zck 317 = true := by decide +kernel
set_option maxRecDepth 1000000 in
theorem zk318 : zck 318 = true := by decide +kernel
set_option maxRecDepth 1000000 in
theorem zk319 : zck 319 = true := by decide +kernel
set_option maxRecDepth 1000000 in
theorem zk320 : zck 320 = true := by decide +kernel
set_option maxRecDepth 1000000 in
theorem zk321 : zck 321 = true := by decide +kernel
set_option maxRecDepth 1000000 in
theorem zk322 : zck 322 = true := by decide +kernel
set_option maxRecDepth 1000000 in
theorem zk323 : zck 323 = true := by decide +kernel
set_option maxRecDepth 1000000 in
theorem zk324 : zck 324 = true := by decide +kernel
set_option maxRecDepth 1000000 in
theorem zk325 : zck 325 = true := by decide +kernel
set_option maxRecDepth 1000000 in
theorem zk326 : zck 326 = true := by decide +kernel
set_option maxRecDepth 1000000 in
theorem zk327 : zck 327 = true := by decide +kernel
set_option maxRecDepth 1000000 in
theorem zk328 : zck 328 = true := by decide +kernel
