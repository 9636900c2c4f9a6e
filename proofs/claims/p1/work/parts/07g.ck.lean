set_option maxRecDepth 1000000 in
theorem zk177 : zck 177 = true := by decide +kernel
set_option maxRecDepth 1000000 in
theorem zk178 : zck 178 = true := by decide +kernel
set_option maxRecDepth 1000000 in
theorem zk179 : zck 179 = true := by decide +kernel
set_option maxRecDepth 1000000 in
theorem zk180 : zck 180 = true := by decide +kernel
set_option maxRecDepth 1000000 in
theorem zk181 : zck 181 = true := by decide +kernel
set_option maxRecDepth 1000000 in
theorem zk182 : zck 182 = true := by decide +kernel
set_option maxRecDepth 1000000 in
theorem zk183 : zck 183 = true := by decide +kernel
set_option maxRecDepth 1000000 in
theorem zk184 : zck 184 = true := by decide +kernel
set_option maxRecDepth 1000000 in
theorem zk185 : zck 185 = true := by decide +kernel
set_option maxRecDepth 1000000 in
theorem zk186 : zck 186 = true := by decide +kernel
set_option maxRecDepth 1000000 in
theorem zk187 : zck 187 = true := by decide +kernel
set_option maxRecDepth 1000000 in
theorem zk188 : zck 188 = true := by decide +kernel
set_option maxRecDepth 1000000 in
theorem zk189 : zck 189 = true := by decide +kernel
set_option maxRecDepth 1000000 in
theorem zk190 : zck 190 = true := by decide +kernel
set_option maxRecDepth 1000000 in
theorem zk191 : zck 191 = true := by decide +kernel
set_option maxRecDepth 1000000 in
theorem zk192 : zck 192 = true := by decide +kernel
set_option maxRecDepth 1000000 in
theorem zk193 : zck 193 = true := by decide +kernel
set_option maxRecDepth 1000000 in
theorem zk194 : zck 194 = true := by decide +kernel
set_option maxRecDepth 1000000 in
theorem zk195 : zck 195 = true := by decide +kernel
set_option maxRecDepth 1000000 in
theorem zk196 : zck 196 = true := by decide +kernel
set_option maxRecDepth 1000000 in
theorem zk197 : zck 197 = true := by decide +kernel
set_option maxRecDepth 1000000 in
theorem zk198 : zck 198 = true := by decide +kernel
set_option maxRecDepth 1000000 in
theorem zk199 : zck 199 = true := by decide +kernel
set_option maxRecDepth 1000000 in
theorem zk200 : zck 200 = true := by decide +kernel
set_option maxRecDepth 1000000 in
theorem zk201 : zck 201 = true := by decide +kernel
