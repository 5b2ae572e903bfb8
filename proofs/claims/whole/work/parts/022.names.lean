set_option maxRecDepth 20000 in
theorem pm_co142 : lw_tbl[1078]? = some (.code (pm_y 142) (pm_b 142) (pm_mL 142) (pm_rt 142)) := rfl
set_option maxRecDepth 20000 in
theorem pm_co143 : lw_tbl[1098]? = some (.code (pm_y 143) (pm_b 143) (pm_mL 143) (pm_rt 143)) := rfl
set_option maxRecDepth 20000 in
theorem pm_co144 : lw_tbl[1102]? = some (.code (pm_y 144) (pm_b 144) (pm_mL 144) (pm_rt 144)) := rfl
set_option maxRecDepth 20000 in
theorem pm_co145 : lw_tbl[1109]? = some (.code (pm_y 145) (pm_b 145) (pm_mL 145) (pm_rt 145)) := rfl
set_option maxRecDepth 20000 in
theorem pm_co146 : lw_tbl[1121]? = some (.code (pm_y 146) (pm_b 146) (pm_mL 146) (pm_rt 146)) := rfl
set_option maxRecDepth 20000 in
theorem pm_co147 : lw_tbl[1125]? = some (.code (pm_y 147) (pm_b 147) (pm_mL 147) (pm_rt 147)) := rfl
set_option maxRecDepth 20000 in
theorem pm_co148 : lw_tbl[1164]? = some (.code (pm_y 148) (pm_b 148) (pm_mL 148) (pm_rt 148)) := rfl
set_option maxRecDepth 20000 in
theorem pm_co149 : lw_tbl[1173]? = some (.code (pm_y 149) (pm_b 149) (pm_mL 149) (pm_rt 149)) := rfl
set_option maxRecDepth 20000 in
theorem pm_co150 : lw_tbl[1193]? = some (.code (pm_y 150) (pm_b 150) (pm_mL 150) (pm_rt 150)) := rfl
set_option maxRecDepth 20000 in
theorem pm_co151 : lw_tbl[1197]? = some (.code (pm_y 151) (pm_b 151) (pm_mL 151) (pm_rt 151)) := rfl
set_option maxRecDepth 20000 in
theorem pm_co152 : lw_tbl[1206]? = some (.code (pm_y 152) (pm_b 152) (pm_mL 152) (pm_rt 152)) := rfl
set_option maxRecDepth 20000 in
theorem pm_co153 : lw_tbl[1210]? = some (.code (pm_y 153) (pm_b 153) (pm_mL 153) (pm_rt 153)) := rfl
set_option maxRecDepth 20000 in
theorem pm_co154 : lw_tbl[1218]? = some (.code (pm_y 154) (pm_b 154) (pm_mL 154) (pm_rt 154)) := rfl
set_option maxRecDepth 20000 in
theorem pm_co155 : lw_tbl[1226]? = some (.code (pm_y 155) (pm_b 155) (pm_mL 155) (pm_rt 155)) := rfl
set_option maxRecDepth 20000 in
theorem pm_co156 : lw_tbl[1230]? = some (.code (pm_y 156) (pm_b 156) (pm_mL 156) (pm_rt 156)) := rfl
set_option maxRecDepth 20000 in
theorem pm_co157 : lw_tbl[1238]? = some (.code (pm_y 157) (pm_b 157) (pm_mL 157) (pm_rt 157)) := rfl
set_option maxRecDepth 20000 in
theorem pm_co158 : lw_tbl[1508]? = some (.code (pm_y 158) (pm_b 158) (pm_mL 158) (pm_rt 158)) := rfl
set_option maxRecDepth 20000 in
theorem pm_co159 : lw_tbl[1511]? = some (.code (pm_y 159) (pm_b 159) (pm_mL 159) (pm_rt 159)) := rfl
set_option maxRecDepth 20000 in
theorem pm_co160 : lw_tbl[1515]? = some (.code (pm_y 160) (pm_b 160) (pm_mL 160) (pm_rt 160)) := rfl
set_option maxRecDepth 20000 in
theorem pm_co161 : lw_tbl[1518]? = some (.code (pm_y 161) (pm_b 161) (pm_mL 161) (pm_rt 161)) := rfl
set_option maxRecDepth 20000 in
theorem pm_co162 : lw_tbl[1522]? = some (.code (pm_y 162) (pm_b 162) (pm_mL 162) (pm_rt 162)) := rfl
set_option maxRecDepth 20000 in
theorem pm_co163 : lw_tbl[1526]? = some (.code (pm_y 163) (pm_b 163) (pm_mL 163) (pm_rt 163)) := rfl
set_option maxRecDepth 20000 in
theorem pm_co164 : lw_tbl[1530]? = some (.code (pm_y 164) (pm_b 164) (pm_mL 164) (pm_rt 164)) := rfl
set_option maxRecDepth 20000 in
theorem pm_co165 : lw_tbl[1533]? = some (.code (pm_y 165) (pm_b 165) (pm_mL 165) (pm_rt 165)) := rfl
set_option maxRecDepth 20000 in
theorem pm_co166 : lw_tbl[1537]? = some (.code (pm_y 166) (pm_b 166) (pm_mL 166) (pm_rt 166)) := rfl
set_option maxRecDepth 20000 in
theorem pm_co167 : lw_tbl[1541]? = some (.code (pm_y 167) (pm_b 167) (pm_mL 167) (pm_rt 167)) := rfl
set_option maxRecDepth 20000 in
theorem pm_co168 : lw_tbl[1545]? = some (.code (pm_y 168) (pm_b 168) (pm_mL 168) (pm_rt 168)) := rfl
set_option maxRecDepth 20000 in
theorem pm_co169 : lw_tbl[1549]? = some (.code (pm_y 169) (pm_b 169) (pm_mL 169) (pm_rt 169)) := rfl
set_option maxRecDepth 20000 in
theorem pm_co170 : lw_tbl[1553]? = some (.code (pm_y 170) (pm_b 170) (pm_mL 170) (pm_rt 170)) := rfl
set_option maxRecDepth 20000 in
theorem pm_co171 : lw_tbl[1556]? = some (.code (pm_y 171) (pm_b 171) (pm_mL 171) (pm_rt 171)) := rfl
set_option maxRecDepth 20000 in
theorem pm_co172 : lw_tbl[1560]? = some (.code (pm_y 172) (pm_b 172) (pm_mL 172) (pm_rt 172)) := rfl
set_option maxRecDepth 20000 in
theorem pm_co173 : lw_tbl[1564]? = some (.code (pm_y 173) (pm_b 173) (pm_mL 173) (pm_rt 173)) := rfl
set_option maxRecDepth 20000 in
theorem pm_co174 : lw_tbl[1568]? = some (.code (pm_y 174) (pm_b 174) (pm_mL 174) (pm_rt 174)) := rfl
set_option maxRecDepth 20000 in
theorem pm_co175 : lw_tbl[1572]? = some (.code (pm_y 175) (pm_b 175) (pm_mL 175) (pm_rt 175)) := rfl
set_option maxRecDepth 20000 in
theorem pm_co176 : lw_tbl[1576]? = some (.code (pm_y 176) (pm_b 176) (pm_mL 176) (pm_rt 176)) := rfl
set_option maxRecDepth 20000 in
theorem pm_co177 : lw_tbl[1580]? = some (.code (pm_y 177) (pm_b 177) (pm_mL 177) (pm_rt 177)) := rfl
set_option maxRecDepth 20000 in
theorem pm_co178 : lw_tbl[1584]? = some (.code (pm_y 178) (pm_b 178) (pm_mL 178) (pm_rt 178)) := rfl
set_option maxRecDepth 20000 in
theorem pm_co179 : lw_tbl[1588]? = some (.code (pm_y 179) (pm_b 179) (pm_mL 179) (pm_rt 179)) := rfl
set_option maxRecDepth 20000 in
theorem pm_co180 : lw_tbl[1592]? = some (.code (pm_y 180) (pm_b 180) (pm_mL 180) (pm_rt 180)) := rfl
set_option maxRecDepth 20000 in
theorem pm_co181 : lw_tbl[1596]? = some (.code (pm_y 181) (pm_b 181) (pm_mL 181) (pm_rt 181)) := rfl
set_option maxRecDepth 20000 in
theorem pm_co182 : lw_tbl[1600]? = some (.code (pm_y 182) (pm_b 182) (pm_mL 182) (pm_rt 182)) := rfl
set_option maxRecDepth 20000 in
theorem pm_co183 : lw_tbl[1603]? = some (.code (pm_y 183) (pm_b 183) (pm_mL 183) (pm_rt 183)) := rfl
set_option maxRecDepth 20000 in
theorem pm_co184 : lw_tbl[1607]? = some (.code (pm_y 184) (pm_b 184) (pm_mL 184) (pm_rt 184)) := rfl
set_option maxRecDepth 20000 in
theorem pm_co185 : lw_tbl[1612]? = some (.code (pm_y 185) (pm_b 185) (pm_mL 185) (pm_rt 185)) := rfl
set_option maxRecDepth 20000 in
theorem pm_co186 : lw_tbl[1616]? = some (.code (pm_y 186) (pm_b 186) (pm_mL 186) (pm_rt 186)) := rfl
set_option maxRecDepth 20000 in
theorem pm_co187 : lw_tbl[1620]? = some (.code (pm_y 187) (pm_b 187) (pm_mL 187) (pm_rt 187)) := rfl
set_option maxRecDepth 20000 in
theorem pm_co188 : lw_tbl[1624]? = some (.code (pm_y 188) (pm_b 188) (pm_mL 188) (pm_rt 188)) := rfl
set_option maxRecDepth 20000 in
theorem pm_co189 : lw_tbl[1628]? = some (.code (pm_y 189) (pm_b 189) (pm_mL 189) (pm_rt 189)) := rfl
set_option maxRecDepth 20000 in
theorem pm_co190 : lw_tbl[1632]? = some (.code (pm_y 190) (pm_b 190) (pm_mL 190) (pm_rt 190)) := rfl
set_option maxRecDepth 20000 in
theorem pm_co191 : lw_tbl[1636]? = some (.code (pm_y 191) (pm_b 191) (pm_mL 191) (pm_rt 191)) := rfl
set_option maxRecDepth 20000 in
theorem pm_co192 : lw_tbl[1640]? = some (.code (pm_y 192) (pm_b 192) (pm_mL 192) (pm_rt 192)) := rfl
set_option maxRecDepth 20000 in
theorem pm_co193 : lw_tbl[1644]? = some (.code (pm_y 193) (pm_b 193) (pm_mL 193) (pm_rt 193)) := rfl
set_option maxRecDepth 20000 in
theorem pm_co194 : lw_tbl[1648]? = some (.code (pm_y 194) (pm_b 194) (pm_mL 194) (pm_rt 194)) := rfl
set_option maxRecDepth 20000 in
theorem pm_co195 : lw_tbl[1652]? = some (.code (pm_y 195) (pm_b 195) (pm_mL 195) (pm_rt 195)) := rfl
set_option maxRecDepth 20000 in
theorem pm_co196 : lw_tbl[1656]? = some (.code (pm_y 196) (pm_b 196) (pm_mL 196) (pm_rt 196)) := rfl
set_option maxRecDepth 20000 in
theorem pm_co197 : lw_tbl[1660]? = some (.code (pm_y 197) (pm_b 197) (pm_mL 197) (pm_rt 197)) := rfl
set_option maxRecDepth 20000 in
theorem pm_co198 : lw_tbl[1664]? = some (.code (pm_y 198) (pm_b 198) (pm_mL 198) (pm_rt 198)) := rfl
set_option maxRecDepth 20000 in
theorem pm_co199 : lw_tbl[1668]? = some (.code (pm_y 199) (pm_b 199) (pm_mL 199) (pm_rt 199)) := rfl
set_option maxRecDepth 20000 in
theorem pm_co200 : lw_tbl[1672]? = some (.code (pm_y 200) (pm_b 200) (pm_mL 200) (pm_rt 200)) := rfl
set_option maxRecDepth 20000 in
theorem pm_co201 : lw_tbl[1676]? = some (.code (pm_y 201) (pm_b 201) (pm_mL 201) (pm_rt 201)) := rfl
set_option maxRecDepth 20000 in
theorem pm_co202 : lw_tbl[1680]? = some (.code (pm_y 202) (pm_b 202) (pm_mL 202) (pm_rt 202)) := rfl
set_option maxRecDepth 20000 in
theorem pm_co203 : lw_tbl[1685]? = some (.code (pm_y 203) (pm_b 203) (pm_mL 203) (pm_rt 203)) := rfl
set_option maxRecDepth 20000 in
theorem pm_co204 : lw_tbl[1689]? = some (.code (pm_y 204) (pm_b 204) (pm_mL 204) (pm_rt 204)) := rfl
set_option maxRecDepth 20000 in
theorem pm_co205 : lw_tbl[1693]? = some (.code (pm_y 205) (pm_b 205) (pm_mL 205) (pm_rt 205)) := rfl
set_option maxRecDepth 20000 in
theorem pm_co206 : lw_tbl[1697]? = some (.code (pm_y 206) (pm_b 206) (pm_mL 206) (pm_rt 206)) := rfl
set_option maxRecDepth 20000 in
theorem pm_co207 : lw_tbl[1701]? = some (.code (pm_y 207) (pm_b 207) (pm_mL 207) (pm_rt 207)) := rfl
set_option maxRecDepth 20000 in
theorem pm_co208 : lw_tbl[1705]? = some (.code (pm_y 208) (pm_b 208) (pm_mL 208) (pm_rt 208)) := rfl
set_option maxRecDepth 20000 in
theorem pm_co209 : lw_tbl[1708]? = some (.code (pm_y 209) (pm_b 209) (pm_mL 209) (pm_rt 209)) := rfl
set_option maxRecDepth 20000 in
theorem pm_co210 : lw_tbl[1712]? = some (.code (pm_y 210) (pm_b 210) (pm_mL 210) (pm_rt 210)) := rfl
set_option maxRecDepth 20000 in
theorem pm_co211 : lw_tbl[1716]? = some (.code (pm_y 211) (pm_b 211) (pm_mL 211) (pm_rt 211)) := rfl
set_option maxRecDepth 20000 in
theorem pm_co212 : lw_tbl[1720]? = some (.code (pm_y 212) (pm_b 212) (pm_mL 212) (pm_rt 212)) := rfl
set_option maxRecDepth 20000 in
theorem pm_co213 : lw_tbl[1724]? = some (.code (pm_y 213) (pm_b 213) (pm_mL 213) (pm_rt 213)) := rfl
set_option maxRecDepth 20000 in
theorem pm_co214 : lw_tbl[1728]? = some (.code (pm_y 214) (pm_b 214) (pm_mL 214) (pm_rt 214)) := rfl
set_option maxRecDepth 20000 in
theorem pm_co215 : lw_tbl[1732]? = some (.code (pm_y 215) (pm_b 215) (pm_mL 215) (pm_rt 215)) := rfl
set_option maxRecDepth 20000 in
theorem pm_co216 : lw_tbl[1736]? = some (.code (pm_y 216) (pm_b 216) (pm_mL 216) (pm_rt 216)) := rfl
set_option maxRecDepth 20000 in
theorem pm_co217 : lw_tbl[1740]? = some (.code (pm_y 217) (pm_b 217) (pm_mL 217) (pm_rt 217)) := rfl
set_option maxRecDepth 20000 in
theorem pm_co218 : lw_tbl[1743]? = some (.code (pm_y 218) (pm_b 218) (pm_mL 218) (pm_rt 218)) := rfl
set_option maxRecDepth 20000 in
theorem pm_co219 : lw_tbl[1748]? = some (.code (pm_y 219) (pm_b 219) (pm_mL 219) (pm_rt 219)) := rfl
set_option maxRecDepth 20000 in
theorem pm_co220 : lw_tbl[1752]? = some (.code (pm_y 220) (pm_b 220) (pm_mL 220) (pm_rt 220)) := rfl
set_option maxRecDepth 20000 in
theorem pm_co221 : lw_tbl[1756]? = some (.code (pm_y 221) (pm_b 221) (pm_mL 221) (pm_rt 221)) := rfl
set_option maxRecDepth 20000 in
theorem pm_co222 : lw_tbl[1760]? = some (.code (pm_y 222) (pm_b 222) (pm_mL 222) (pm_rt 222)) := rfl
set_option maxRecDepth 20000 in
theorem pm_co223 : lw_tbl[1764]? = some (.code (pm_y 223) (pm_b 223) (pm_mL 223) (pm_rt 223)) := rfl
set_option maxRecDepth 20000 in
theorem pm_co224 : lw_tbl[1768]? = some (.code (pm_y 224) (pm_b 224) (pm_mL 224) (pm_rt 224)) := rfl
set_option maxRecDepth 20000 in
theorem pm_co225 : lw_tbl[1772]? = some (.code (pm_y 225) (pm_b 225) (pm_mL 225) (pm_rt 225)) := rfl
set_option maxRecDepth 20000 in
theorem pm_co226 : lw_tbl[1777]? = some (.code (pm_y 226) (pm_b 226) (pm_mL 226) (pm_rt 226)) := rfl
set_option maxRecDepth 20000 in
theorem pm_co227 : lw_tbl[1782]? = some (.code (pm_y 227) (pm_b 227) (pm_mL 227) (pm_rt 227)) := rfl
set_option maxRecDepth 20000 in
theorem pm_co228 : lw_tbl[1786]? = some (.code (pm_y 228) (pm_b 228) (pm_mL 228) (pm_rt 228)) := rfl
set_option maxRecDepth 20000 in
theorem pm_co229 : lw_tbl[1790]? = some (.code (pm_y 229) (pm_b 229) (pm_mL 229) (pm_rt 229)) := rfl
set_option maxRecDepth 20000 in
theorem pm_co230 : lw_tbl[1794]? = some (.code (pm_y 230) (pm_b 230) (pm_mL 230) (pm_rt 230)) := rfl
set_option maxRecDepth 20000 in
theorem pm_co231 : lw_tbl[1798]? = some (.code (pm_y 231) (pm_b 231) (pm_mL 231) (pm_rt 231)) := rfl
set_option maxRecDepth 20000 in
theorem pm_co232 : lw_tbl[1802]? = some (.code (pm_y 232) (pm_b 232) (pm_mL 232) (pm_rt 232)) := rfl
set_option maxRecDepth 20000 in
theorem pm_co233 : lw_tbl[1806]? = some (.code (pm_y 233) (pm_b 233) (pm_mL 233) (pm_rt 233)) := rfl
set_option maxRecDepth 20000 in
theorem pm_co234 : lw_tbl[1810]? = some (.code (pm_y 234) (pm_b 234) (pm_mL 234) (pm_rt 234)) := rfl
set_option maxRecDepth 20000 in
theorem pm_co235 : lw_tbl[1814]? = some (.code (pm_y 235) (pm_b 235) (pm_mL 235) (pm_rt 235)) := rfl
set_option maxRecDepth 20000 in
theorem pm_co236 : lw_tbl[1817]? = some (.code (pm_y 236) (pm_b 236) (pm_mL 236) (pm_rt 236)) := rfl
set_option maxRecDepth 20000 in
theorem pm_co237 : lw_tbl[1821]? = some (.code (pm_y 237) (pm_b 237) (pm_mL 237) (pm_rt 237)) := rfl
set_option maxRecDepth 20000 in
theorem pm_co238 : lw_tbl[1825]? = some (.code (pm_y 238) (pm_b 238) (pm_mL 238) (pm_rt 238)) := rfl
set_option maxRecDepth 20000 in
theorem pm_co239 : lw_tbl[1829]? = some (.code (pm_y 239) (pm_b 239) (pm_mL 239) (pm_rt 239)) := rfl
set_option maxRecDepth 20000 in
theorem pm_co240 : lw_tbl[1833]? = some (.code (pm_y 240) (pm_b 240) (pm_mL 240) (pm_rt 240)) := rfl
set_option maxRecDepth 20000 in
theorem pm_co241 : lw_tbl[1837]? = some (.code (pm_y 241) (pm_b 241) (pm_mL 241) (pm_rt 241)) := rfl
set_option maxRecDepth 20000 in
theorem pm_co242 : lw_tbl[1840]? = some (.code (pm_y 242) (pm_b 242) (pm_mL 242) (pm_rt 242)) := rfl
set_option maxRecDepth 20000 in
theorem pm_co243 : lw_tbl[1844]? = some (.code (pm_y 243) (pm_b 243) (pm_mL 243) (pm_rt 243)) := rfl
set_option maxRecDepth 20000 in
theorem pm_co244 : lw_tbl[1849]? = some (.code (pm_y 244) (pm_b 244) (pm_mL 244) (pm_rt 244)) := rfl
set_option maxRecDepth 20000 in
theorem pm_co245 : lw_tbl[1853]? = some (.code (pm_y 245) (pm_b 245) (pm_mL 245) (pm_rt 245)) := rfl
set_option maxRecDepth 20000 in
theorem pm_co246 : lw_tbl[1857]? = some (.code (pm_y 246) (pm_b 246) (pm_mL 246) (pm_rt 246)) := rfl
set_option maxRecDepth 20000 in
theorem pm_co247 : lw_tbl[1861]? = some (.code (pm_y 247) (pm_b 247) (pm_mL 247) (pm_rt 247)) := rfl
set_option maxRecDepth 20000 in
theorem pm_co248 : lw_tbl[1865]? = some (.code (pm_y 248) (pm_b 248) (pm_mL 248) (pm_rt 248)) := rfl
set_option maxRecDepth 20000 in
theorem pm_co249 : lw_tbl[1869]? = some (.code (pm_y 249) (pm_b 249) (pm_mL 249) (pm_rt 249)) := rfl
set_option maxRecDepth 20000 in
theorem pm_co250 : lw_tbl[1873]? = some (.code (pm_y 250) (pm_b 250) (pm_mL 250) (pm_rt 250)) := rfl
set_option maxRecDepth 20000 in
theorem pm_co251 : lw_tbl[1877]? = some (.code (pm_y 251) (pm_b 251) (pm_mL 251) (pm_rt 251)) := rfl
set_option maxRecDepth 20000 in
theorem pm_co252 : lw_tbl[1881]? = some (.code (pm_y 252) (pm_b 252) (pm_mL 252) (pm_rt 252)) := rfl
set_option maxRecDepth 20000 in
theorem pm_co253 : lw_tbl[1885]? = some (.code (pm_y 253) (pm_b 253) (pm_mL 253) (pm_rt 253)) := rfl
set_option maxRecDepth 20000 in
theorem pm_co254 : lw_tbl[1888]? = some (.code (pm_y 254) (pm_b 254) (pm_mL 254) (pm_rt 254)) := rfl
set_option maxRecDepth 20000 in
theorem pm_co255 : lw_tbl[1892]? = some (.code (pm_y 255) (pm_b 255) (pm_mL 255) (pm_rt 255)) := rfl
set_option maxRecDepth 20000 in
theorem pm_co256 : lw_tbl[1896]? = some (.code (pm_y 256) (pm_b 256) (pm_mL 256) (pm_rt 256)) := rfl
set_option maxRecDepth 20000 in
theorem pm_co257 : lw_tbl[1900]? = some (.code (pm_y 257) (pm_b 257) (pm_mL 257) (pm_rt 257)) := rfl
set_option maxRecDepth 20000 in
theorem pm_co258 : lw_tbl[1904]? = some (.code (pm_y 258) (pm_b 258) (pm_mL 258) (pm_rt 258)) := rfl
set_option maxRecDepth 20000 in
theorem pm_co259 : lw_tbl[1908]? = some (.code (pm_y 259) (pm_b 259) (pm_mL 259) (pm_rt 259)) := rfl
set_option maxRecDepth 20000 in
theorem pm_co260 : lw_tbl[1912]? = some (.code (pm_y 260) (pm_b 260) (pm_mL 260) (pm_rt 260)) := rfl
set_option maxRecDepth 20000 in
theorem pm_co261 : lw_tbl[1916]? = some (.code (pm_y 261) (pm_b 261) (pm_mL 261) (pm_rt 261)) := rfl
set_option maxRecDepth 20000 in
theorem pm_co262 : lw_tbl[1920]? = some (.code (pm_y 262) (pm_b 262) (pm_mL 262) (pm_rt 262)) := rfl
set_option maxRecDepth 20000 in
theorem pm_co263 : lw_tbl[1924]? = some (.code (pm_y 263) (pm_b 263) (pm_mL 263) (pm_rt 263)) := rfl
set_option maxRecDepth 20000 in
theorem pm_co264 : lw_tbl[1034]? = some (.code (pm_y 264) (pm_b 264) (pm_mL 264) (pm_rt 264)) := rfl
set_option maxRecDepth 20000 in
theorem pm_co265 : lw_tbl[483]? = some (.code (pm_y 265) (pm_b 265) (pm_mL 265) (pm_rt 265)) := rfl
set_option maxRecDepth 20000 in
theorem pm_co266 : lw_tbl[970]? = some (.code (pm_y 266) (pm_b 266) (pm_mL 266) (pm_rt 266)) := rfl
set_option maxRecDepth 20000 in
theorem pm_co267 : lw_tbl[1095]? = some (.code (pm_y 267) (pm_b 267) (pm_mL 267) (pm_rt 267)) := rfl
set_option maxRecDepth 20000 in
theorem pm_co268 : lw_tbl[1105]? = some (.code (pm_y 268) (pm_b 268) (pm_mL 268) (pm_rt 268)) := rfl
set_option maxRecDepth 20000 in
theorem pm_co269 : lw_tbl[831]? = some (.code (pm_y 269) (pm_b 269) (pm_mL 269) (pm_rt 269)) := rfl
set_option maxRecDepth 20000 in
theorem pm_co270 : lw_tbl[835]? = some (.code (pm_y 270) (pm_b 270) (pm_mL 270) (pm_rt 270)) := rfl
set_option maxRecDepth 20000 in
theorem pm_co271 : lw_tbl[841]? = some (.code (pm_y 271) (pm_b 271) (pm_mL 271) (pm_rt 271)) := rfl
set_option maxRecDepth 20000 in
theorem pm_co272 : lw_tbl[845]? = some (.code (pm_y 272) (pm_b 272) (pm_mL 272) (pm_rt 272)) := rfl
set_option maxRecDepth 20000 in
theorem pm_co273 : lw_tbl[851]? = some (.code (pm_y 273) (pm_b 273) (pm_mL 273) (pm_rt 273)) := rfl
set_option maxRecDepth 20000 in
theorem pm_co274 : lw_tbl[848]? = some (.code (pm_y 274) (pm_b 274) (pm_mL 274) (pm_rt 274)) := rfl
set_option maxRecDepth 20000 in
theorem pm_co275 : lw_tbl[856]? = some (.code (pm_y 275) (pm_b 275) (pm_mL 275) (pm_rt 275)) := rfl
set_option maxRecDepth 20000 in
theorem pm_co276 : lw_tbl[859]? = some (.code (pm_y 276) (pm_b 276) (pm_mL 276) (pm_rt 276)) := rfl
set_option maxRecDepth 20000 in
theorem pm_co277 : lw_tbl[862]? = some (.code (pm_y 277) (pm_b 277) (pm_mL 277) (pm_rt 277)) := rfl
set_option maxRecDepth 20000 in
theorem pm_co278 : lw_tbl[865]? = some (.code (pm_y 278) (pm_b 278) (pm_mL 278) (pm_rt 278)) := rfl
set_option maxRecDepth 20000 in
theorem pm_co279 : lw_tbl[869]? = some (.code (pm_y 279) (pm_b 279) (pm_mL 279) (pm_rt 279)) := rfl
