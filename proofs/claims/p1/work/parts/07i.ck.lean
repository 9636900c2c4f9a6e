set_option maxRecDepth 1000000 in
theorem zk214 : zck 214 = true := by decide +kernel
set_option maxRecDepth 1000000 in
theorem zk215 : zck 215 = true := by decide +kernel
set_option maxRecDepth 1000000 in
theorem zk216 : zck 216 = true := by decide +kernel
set_option maxRecDepth 1000000 in
theorem zk217 : zck 217 = true := by decide +kernel
set_option maxRecDepth 1000000 in
theorem zk218 : zck 218 = true := by decide +kernel
set_option maxRecDepth 1000000 in
theorem zk219 : zck 219 = true := by decide +kernel
set_option maxRecDepth 1000000 in
theorem zk220 : zck 220 = true := by decide +kernel
set_option maxRecDepth 1000000 in
theorem zk221 : zck 221 = true := by decide +kernel
set_option maxRecDepth 1000000 in
theorem zk222 : zck 222 = true := by decide +kernel
set_option maxRecDepth 1000000 in
theorem zk223 : zck 223 = true := by decide +kernel
set_option maxRecDepth 1000000 in
theorem zk224 : zck 224 = true := by decide +kernel
set_option maxRecDepth 1000000 in
theorem zk225 : zck 225 = true := by decide +kernel
set_option maxRecDepth 1000000 in
theorem zk226 : zck 226 = true := by decide +kernel
set_option maxRecDepth 1000000 in
theorem zk227 : zck 227 = true := by decide +kernel
set_option maxRecDepth 1000000 in
theorem zk228 : zck 228 = true := by decide +kernel
set_option maxRecDepth 1000000 in
theorem zk229 : zck 229 = true := by decide +kernel
set_option maxRecDepth 1000000 in
theorem zk230 : zck 230 = true := by decide +kernel
set_option maxRecDepth 1000000 in
theorem zk231 : zck 231 = true := by decide +kernel
set_option maxRecDepth 1000000 in
theorem zk232 : zck 232 = true := by decide +kernel
