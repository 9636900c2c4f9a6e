set_option maxRecDepth 1000000 in
theorem zk143 : zck 143 = true := by decide +kernel
set_option maxRecDepth 1000000 in
theorem zk144 : zck 144 = true := by decide +kernel
set_option maxRecDepth 1000000 in
theorem zk145 : zck 145 = true := by decide +kernel
set_option maxRecDepth 1000000 in
theorem zk146 : zck 146 = true := by decide +kernel
set_option maxRecDepth 1000000 in
theorem zk147 : zck 147 = true := by decide +kernel
set_option maxRecDepth 1000000 in
theorem zk148 : zck 148 = true := by decide +kernel
set_option maxRecDepth 1000000 in
theorem zk149 : zck 149 = true := by decide +kernel
set_option maxRecDepth 1000000 in
theorem zk150 : zck 150 = true := by decide +kernel
set_option maxRecDepth 1000000 in
theorem zk151 : zck 151 = true := by decide +kernel
set_option maxRecDepth 1000000 in
theorem zk152 : zck 152 = true := by decide +kernel
set_option maxRecDepth 1000000 in
theorem zk153 : zck 153 = true := by decide +kernel
set_option maxRecDepth 1000000 in
theorem zk154 : zck 154 = true := by decide +kernel
set_option maxRecDepth 1000000 in
theorem zk155 : zck 155 = true := by decide +kernel
set_option maxRecDepth 1000000 in
theorem zk156 : zck 156 = true := by decide +kernel
set_option maxRecDepth 1000000 in
theorem zk157 : zck 157 = true := by decide +kernel
set_option maxRecDepth 1000000 in
theorem zk158 : zck 158 = true := by decide +kernel
set_option maxRecDepth 1000000 in
theorem zk159 : zck 159 = true := by decide +kernel
set_option maxRecDepth 1000000 in
theorem zk160 : zck 160 = true := by decide +kernel
set_option maxRecDepth 1000000 in
theorem zk161 : zck 161 = true := by decide +kernel
set_option maxRecDepth 1000000 in
theorem zk162 : zck 162 = true := by decide +kernel
set_option maxRecDepth 1000000 in
theorem zk163 : zck 163 = true := by decide +kernel
set_option maxRecDepth 1000000 in
theorem zk164 : zck 164 = true := by decide +kernel
set_option maxRecDepth 1000000 in
theorem zk165 : zck 165 = true := by decide +kernel
set_option maxRecDepth 1000000 in
theorem zk166 : zck 166 = true := by decide +kernel
set_option maxRecDepth 1000000 in
theorem zk167 : zck 167 = true := by decide +kernel
set_option maxRecDepth 1000000 in
theorem zk168 : zck 168 = true := by decide +kernel
set_option maxRecDepth 1000000 in
theorem zk169 : zck 169 = true := by decide +kernel
set_option maxRecDepth 1000000 in
theorem zk170 : zck 170 = true := by decide +kernel
set_option maxRecDepth 1000000 in
theorem zk171 : zck 171 = true := by decide +kernel
set_option maxRecDepth 1000000 in
theorem zk172 : zck 172 = true := by decide +kernel
set_option maxRecDepth 1000000 in
theorem zk173 : zck 173 = true := by decide +kernel
set_option maxRecDepth 1000000 in
theorem zk174 : zck 174 = true := by decide +kernel
set_option maxRecDepth 1000000 in
theorem zk175 : zck 175 = true := by decide +kernel
set_option maxRecDepth 1000000 in
theorem zk176 : zck 176 = true := by decide +kernel
