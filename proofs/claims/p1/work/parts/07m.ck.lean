set_option maxRecDepth 1000000 in
theorem zk283 : zck 283 = true := by decide +kernel
set_option maxRecDepth 1000000 in
theorem zk284 : zck 284 = true := by decide +kernel
set_option maxRecDepth 1000000 in
theorem zk285 : zck 285 = true := by decide +kernel
set_option maxRecDepth 1000000 in
theorem zk286 : zck 286 = true := by decide +kernel
set_option maxRecDepth 1000000 in
theorem zk287 : zck 287 = true := by decide +kernel
set_option maxRecDepth 1000000 in
theorem zk288 : zck 288 = true := by decide +kernel
set_option maxRecDepth 1000000 in
theorem zk289 : zck 289 = true := by decide +kernel
set_option maxRecDepth 1000000 in
theorem zk290 : zck 290 = true := by decide +kernel
set_option maxRecDepth 1000000 in
theorem zk291 : zck 291 = true := by decide +kernel
set_option maxRecDepth 1000000 in
theorem zk292 : zck 292 = true := by decide +kernel
set_option maxRecDepth 1000000 in
theorem zk293 : zck 293 = true := by decide +kernel
set_option maxRecDepth 1000000 in
theorem zk294 : zck 294 = true := by decide +kernel
set_option maxRecDepth 1000000 in
theorem zk295 : zck 295 = true := by decide +kernel
set_option maxRecDepth 1000000 in
theorem zk296 : zck 296 = true := by decide +kernel
set_option maxRecDepth 1000000 in
theorem zk297 : zck 297 = true := by decide +kernel
set_option maxRecDepth 1000000 in
theorem zk298 : zck 298 = true := by decide +kernel
