set_option maxRecDepth 1000000 in
theorem ck144_0 : ckS 144 0 60 = true := by decide +kernel
set_option maxRecDepth 1000000 in
theorem ck145_0 : ckS 145 0 60 = true := by decide +kernel
set_option maxRecDepth 1000000 in
theorem ck145_60 : ckS 145 60 60 = true := by decide +kernel
set_option maxRecDepth 1000000 in
theorem ck146_0 : ckS 146 0 60 = true := by decide +kernel
set_option maxRecDepth 1000000 in
theorem ck147_0 : ckS 147 0 60 = true := by decide +kernel
set_option maxRecDepth 1000000 in
theorem ck148_0 : ckS 148 0 60 = true := by decide +kernel
set_option maxRecDepth 1000000 in
theorem ck148_60 : ckS 148 60 60 = true := by decide +kernel
set_option maxRecDepth 1000000 in
theorem ck148_120 : ckS 148 120 60 = true := by decide +kernel
set_option maxRecDepth 1000000 in
theorem ck149_0 : ckS 149 0 60 = true := by decide +kernel
set_option maxRecDepth 1000000 in
theorem ck150_0 : ckS 150 0 60 = true := by decide +kernel
set_option maxRecDepth 1000000 in
theorem ck151_0 : ckS 151 0 60 = true := by decide +kernel
set_option maxRecDepth 1000000 in
theorem ck152_0 : ckS 152 0 60 = true := by decide +kernel
set_option maxRecDepth 1000000 in
theorem ck153_0 : ckS 153 0 60 = true := by decide +kernel
set_option maxRecDepth 1000000 in
theorem ck154_0 : ckS 154 0 60 = true := by decide +kernel
set_option maxRecDepth 1000000 in
theorem ck155_0 : ckS 155 0 60 = true := by decide +kernel
set_option maxRecDepth 1000000 in
theorem ck156_0 : ckS 156 0 60 = true := by decide +kernel
set_option maxRecDepth 1000000 in
theorem ck157_0 : ckS 157 0 60 = true := by decide +kernel
set_option maxRecDepth 1000000 in
theorem ck158_0 : ckS 158 0 60 = true := by decide +kernel
set_option maxRecDepth 1000000 in
theorem ck159_0 : ckS 159 0 60 = true := by decide +kernel
set_option maxRecDepth 1000000 in
theorem ck160_0 : ckS 160 0 60 = true := by decide +kernel
set_option maxRecDepth 1000000 in
theorem ck161_0 : ckS 161 0 60 = true := by decide +kernel
set_option maxRecDepth 1000000 in
theorem ck162_0 : ckS 162 0 60 = true := by decide +kernel
set_option maxRecDepth 1000000 in
theorem ck163_0 : ckS 163 0 60 = true := by decide +kernel
set_option maxRecDepth 1000000 in
theorem ck163_60 : ckS 163 60 60 = true := by decide +kernel
set_option maxRecDepth 1000000 in
theorem ck164_0 : ckS 164 0 60 = true := by decide +kernel
set_option maxRecDepth 1000000 in
theorem ck164_60 : ckS 164 60 60 = true := by decide +kernel
set_option maxRecDepth 1000000 in
theorem ck165_0 : ckS 165 0 60 = true := by decide +kernel
set_option maxRecDepth 1000000 in
theorem ck166_0 : ckS 166 0 60 = true := by decide +kernel
set_option maxRecDepth 1000000 in
theorem ck167_0 : ckS 167 0 60 = true := by decide +kernel
set_option maxRecDepth 1000000 in
theorem ck168_0 : ckS 168 0 60 = true := by decide +kernel
set_option maxRecDepth 1000000 in
theorem ck169_0 : ckS 169 0 60 = true := by decide +kernel
set_option maxRecDepth 1000000 in
theorem ck170_0 : ckS 170 0 60 = true := by decide +kernel
set_option maxRecDepth 1000000 in
theorem ck171_0 : ckS 171 0 60 = true := by decide +kernel
set_option maxRecDepth 1000000 in
theorem ck172_0 : ckS 172 0 60 = true := by decide +kernel
set_option maxRecDepth 1000000 in
theorem ck173_0 : ckS 173 0 60 = true := by decide +kernel
set_option maxRecDepth 1000000 in
theorem ck174_0 : ckS 174 0 60 = true := by decide +kernel
set_option maxRecDepth 1000000 in
theorem ck175_0 : ckS 175 0 60 = true := by decide +kernel
set_option maxRecDepth 1000000 in
theorem ck176_0 : ckS 176 0 60 = true := by decide +kernel
set_option maxRecDepth 1000000 in
theorem ck177_0 : ckS 177 0 60 = true := by decide +kernel
set_option maxRecDepth 1000000 in
theorem ck178_0 : ckS 178 0 60 = true := by decide +kernel
set_option maxRecDepth 1000000 in
theorem ck178_60 : ckS 178 60 60 = true := by decide +kernel
set_option maxRecDepth 1000000 in
theorem ck179_0 : ckS 179 0 60 = true := by decide +kernel
set_option maxRecDepth 1000000 in
theorem ck180_0 : ckS 180 0 60 = true := by decide +kernel
set_option maxRecDepth 1000000 in
theorem ck181_0 : ckS 181 0 60 = true := by decide +kernel
set_option maxRecDepth 1000000 in
theorem ck182_0 : ckS 182 0 60 = true := by decide +kernel
set_option maxRecDepth 1000000 in
theorem ck183_0 : ckS 183 0 60 = true := by decide +kernel
set_option maxRecDepth 1000000 in
theorem ck184_0 : ckS 184 0 60 = true := by decide +kernel
set_option maxRecDepth 1000000 in
theorem ck185_0 : ckS 185 0 60 = true := by decide +kernel
set_option maxRecDepth 1000000 in
theorem ck185_60 : ckS 185 60 60 = true := by decide +kernel
set_option maxRecDepth 1000000 in
theorem ck186_0 : ckS 186 0 60 = true := by decide +kernel
set_option maxRecDepth 1000000 in
theorem ck187_0 : ckS 187 0 60 = true := by decide +kernel
set_option maxRecDepth 1000000 in
theorem ck187_60 : ckS 187 60 60 = true := by decide +kernel
set_option maxRecDepth 1000000 in
theorem ck188_0 : ckS 188 0 60 = true := by decide +kernel
set_option maxRecDepth 1000000 in
theorem ck189_0 : ckS 189 0 60 = true := by decide +kernel
set_option maxRecDepth 1000000 in
theorem ck190_0 : ckS 190 0 60 = true := by decide +kernel
set_option maxRecDepth 1000000 in
theorem ck191_0 : ckS 191 0 60 = true := by decide +kernel
set_option maxRecDepth 1000000 in
theorem ck192_0 : ckS 192 0 60 = true := by decide +kernel
set_option maxRecDepth 1000000 in
theorem ck193_0 : ckS 193 0 60 = true := by decide +kernel
set_option maxRecDepth 1000000 in
theorem ck194_0 : ckS 194 0 60 = true := by decide +kernel
set_option maxRecDepth 1000000 in
theorem ck194_60 : ckS 194 60 60 = true := by decide +kernel
set_option maxRecDepth 1000000 in
theorem ck194_120 : ckS 194 120 60 = true := by decide +kernel
set_option maxRecDepth 1000000 in
theorem ck195_0 : ckS 195 0 60 = true := by decide +kernel
set_option maxRecDepth 1000000 in
theorem ck195_60 : ckS 195 60 60 = true := by decide +kernel
set_option maxRecDepth 1000000 in
theorem ck195_120 : ckS 195 120 60 = true := by decide +kernel
set_option maxRecDepth 1000000 in
theorem ck196_0 : ckS 196 0 60 = true := by decide +kernel
set_option maxRecDepth 1000000 in
theorem ck196_60 : ckS 196 60 60 = true := by decide +kernel
set_option maxRecDepth 1000000 in
theorem ck197_0 : ckS 197 0 60 = true := by decide +kernel
set_option maxRecDepth 1000000 in
theorem ck197_60 : ckS 197 60 60 = true := by decide +kernel
set_option maxRecDepth 1000000 in
theorem ck198_0 : ckS 198 0 60 = true := by decide +kernel
set_option maxRecDepth 1000000 in
theorem ck198_60 : ckS 198 60 60 = true := by decide +kernel
set_option maxRecDepth 1000000 in
theorem ck199_0 : ckS 199 0 60 = true := by decide +kernel
set_option maxRecDepth 1000000 in
theorem ck199_60 : ckS 199 60 60 = true := by decide +kernel
set_option maxRecDepth 1000000 in
theorem ck200_0 : ckS 200 0 60 = true := by decide +kernel
set_option maxRecDepth 1000000 in
theorem ck200_60 : ckS 200 60 60 = true := by decide +kernel
set_option maxRecDepth 1000000 in
theorem ck201_0 : ckS 201 0 60 = true := by decide +kernel
set_option maxRecDepth 1000000 in
theorem ck201_60 : ckS 201 60 60 = true := by decide +kernel
set_option maxRecDepth 1000000 in
theorem ck202_0 : ckS 202 0 60 = true := by decide +kernel
set_option maxRecDepth 1000000 in
theorem ck203_0 : ckS 203 0 60 = true := by decide +kernel
set_option maxRecDepth 1000000 in
theorem ck204_0 : ckS 204 0 60 = true := by decide +kernel
set_option maxRecDepth 1000000 in
theorem ck205_0 : ckS 205 0 60 = true := by decide +kernel
set_option maxRecDepth 1000000 in
theorem ck206_0 : ckS 206 0 60 = true := by decide +kernel
set_option maxRecDepth 1000000 in
theorem ck207_0 : ckS 207 0 60 = true := by decide +kernel
set_option maxRecDepth 1000000 in
theorem ck208_0 : ckS 208 0 60 = true := by decide +kernel
set_option maxRecDepth 1000000 in
theorem ck208_60 : ckS 208 60 60 = true := by decide +kernel
set_option maxRecDepth 1000000 in
theorem ck209_0 : ckS 209 0 60 = true := by decide +kernel
set_option maxRecDepth 1000000 in
theorem ck210_0 : ckS 210 0 60 = true := by decide +kernel
set_option maxRecDepth 1000000 in
theorem ck211_0 : ckS 211 0 60 = true := by decide +kernel
set_option maxRecDepth 1000000 in
theorem ck212_0 : ckS 212 0 60 = true := by decide +kernel
set_option maxRecDepth 1000000 in
theorem ck212_60 : ckS 212 60 60 = true := by decide +kernel
set_option maxRecDepth 1000000 in
theorem ck213_0 : ckS 213 0 60 = true := by decide +kernel
set_option maxRecDepth 1000000 in
theorem ck214_0 : ckS 214 0 60 = true := by decide +kernel
set_option maxRecDepth 1000000 in
theorem ck215_0 : ckS 215 0 60 = true := by decide +kernel
set_option maxRecDepth 1000000 in
theorem ck216_0 : ckS 216 0 60 = true := by decide +kernel
set_option maxRecDepth 1000000 in
theorem ck217_0 : ckS 217 0 60 = true := by decide +kernel
set_option maxRecDepth 1000000 in
theorem ck218_0 : ckS 218 0 60 = true := by decide +kernel
set_option maxRecDepth 1000000 in
theorem ck219_0 : ckS 219 0 60 = true := by decide +kernel
set_option maxRecDepth 1000000 in
theorem ck219_60 : ckS 219 60 60 = true := by decide +kernel
set_option maxRecDepth 1000000 in
theorem ck220_0 : ckS 220 0 60 = true := by decide +kernel
set_option maxRecDepth 1000000 in
theorem ck221_0 : ckS 221 0 60 = true := by decide +kernel
set_option maxRecDepth 1000000 in
theorem ck221_60 : ckS 221 60 60 = true := by decide +kernel
set_option maxRecDepth 1000000 in
theorem ck221_120 : ckS 221 120 60 = true := by decide +kernel
set_option maxRecDepth 1000000 in
theorem ck222_0 : ckS 222 0 60 = true := by decide +kernel
set_option maxRecDepth 1000000 in
theorem ck223_0 : ckS 223 0 60 = true := by decide +kernel
set_option maxRecDepth 1000000 in
theorem ck224_0 : ckS 224 0 60 = true := by decide +kernel
