set_option maxRecDepth 1000000 in
theorem ck161_0 : ckS 161 0 60 = true := by decide +kernel
set_option maxRecDepth 1000000 in
theorem ck162_0 : ckS 162 0 60 = true := by decide +kernel
set_option maxRecDepth 1000000 in
theorem ck163_0 : ckS 163 0 60 = true := by decide +kernel
set_option maxRecDepth 1000000 in
theorem ck163_60 : ckS 163 60 60 = true := by decide +kernel
set_option maxRecDepth 1000000 in
theorem ck164_0 : ckS 164 0 60 = true := by decide +kernel
set_option maxRecDepth 1000000 in
theorem ck164_60 : ckS 164 60 60 = true := by decide +kernel
set_option maxRecDepth 1000000 in
theorem ck165_0 : ckS 165 0 60 = true := by decide +kernel
set_option maxRecDepth 1000000 in
theorem ck166_0 : ckS 166 0 60 = true := by decide +kernel
set_option maxRecDepth 1000000 in
theorem ck167_0 : ckS 167 0 60 = true := by decide +kernel
set_option maxRecDepth 1000000 in
theorem ck168_0 : ckS 168 0 60 = true := by decide +kernel
set_option maxRecDepth 1000000 in
theorem ck169_0 : ckS 169 0 60 = true := by decide +kernel
set_option maxRecDepth 1000000 in
theorem ck170_0 : ckS 170 0 60 = true := by decide +kernel
set_option maxRecDepth 1000000 in
theorem ck171_0 : ckS 171 0 60 = true := by decide +kernel
set_option maxRecDepth 1000000 in
theorem ck172_0 : ckS 172 0 60 = true := by decide +kernel
set_option maxRecDepth 1000000 in
theorem ck173_0 : ckS 173 0 60 = true := by decide +kernel
set_option maxRecDepth 1000000 in
theorem ck174_0 : ckS 174 0 60 = true := by decide +kernel
set_option maxRecDepth 1000000 in
theorem ck175_0 : ckS 175 0 60 = true := by decide +kernel
set_option maxRecDepth 1000000 in
theorem ck176_0 : ckS 176 0 60 = true := by decide +kernel
set_option maxRecDepth 1000000 in
theorem ck177_0 : ckS 177 0 60 = true := by decide +kernel
set_option maxRecDepth 1000000 in
theorem ck178_0 : ckS 178 0 60 = true := by decide +kernel
set_option maxRecDepth 1000000 in
theorem ck178_60 : ckS 178 60 60 = true := by decide +kernel
set_option maxRecDepth 1000000 in
theorem ck179_0 : ckS 179 0 60 = true := by decide +kernel
set_option maxRecDepth 1000000 in
theorem ck180_0 : ckS 180 0 60 = true := by decide +kernel
set_option maxRecDepth 1000000 in
theorem ck181_0 : ckS 181 0 60 = true := by decide +kernel
set_option maxRecDepth 1000000 in
theorem ck182_0 : ckS 182 0 60 = true := by decide +kernel
set_option maxRecDepth 1000000 in
theorem ck183_0 : ckS 183 0 60 = true := by decide +kernel
set_option maxRecDepth 1000000 in
theorem ck184_0 : ckS 184 0 60 = true := by decide +kernel
set_option maxRecDepth 1000000 in
theorem ck185_0 : ckS 185 0 60 = true := by decide +kernel
set_option maxRecDepth 1000000 in
theorem ck185_60 : ckS 185 60 60 = true := by decide +kernel
set_option maxRecDepth 1000000 in
theorem ck186_0 : ckS 186 0 60 = true := by decide +kernel
set_option maxRecDepth 1000000 in
theorem ck187_0 : ckS 187 0 60 = true := by decide +kernel
set_option maxRecDepth 1000000 in
theorem ck187_60 : ckS 187 60 60 = true := by decide +kernel
set_option maxRecDepth 1000000 in
theorem ck188_0 : ckS 188 0 60 = true := by decide +kernel
set_option maxRecDepth 1000000 in
theorem ck189_0 : ckS 189 0 60 = true := by decide +kernel
set_option maxRecDepth 1000000 in
theorem ck190_0 : ckS 190 0 60 = true := by decide +kernel
set_option maxRecDepth 1000000 in
theorem ck191_0 : ckS 191 0 60 = true := by decide +kernel
set_option maxRecDepth 1000000 in
theorem ck192_0 : ckS 192 0 60 = true := by decide +kernel
set_option maxRecDepth 1000000 in
theorem ck193_0 : ckS 193 0 60 = true := by decide +kernel
set_option maxRecDepth 1000000 in
theorem ck194_0 : ckS 194 0 60 = true := by decide +kernel
set_option maxRecDepth 1000000 in
theorem ck194_60 : ckS 194 60 60 = true := by decide +kernel
set_option maxRecDepth 1000000 in
theorem ck194_120 : ckS 194 120 60 = true := by decide +kernel
set_option maxRecDepth 1000000 in
theorem ck195_0 : ckS 195 0 60 = true := by decide +kernel
set_option maxRecDepth 1000000 in
theorem ck195_60 : ckS 195 60 60 = true := by decide +kernel
set_option maxRecDepth 1000000 in
theorem ck195_120 : ckS 195 120 60 = true := by decide +kernel
set_option maxRecDepth 1000000 in
theorem ck196_0 : ckS 196 0 60 = true := by decide +kernel
set_option maxRecDepth 1000000 in
theorem ck196_60 : ckS 196 60 60 = true := by decide +kernel
