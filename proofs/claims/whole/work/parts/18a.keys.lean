theorem kAk_110009 : zAkT.lookup 110009 = some (24, 1030, 1031) := by decide +kernel
theorem kAk_120103 : zAkT.lookup 120103 = some (27, 6028, 6029) := by decide +kernel
theorem kAk_30009 : zAkT.lookup 30009 = some (25, 1116, 1117) := by decide +kernel
theorem kAk_30022 : zAkT.lookup 30022 = some (26, 1152, 1153) := by decide +kernel
theorem kCk_120462 : zCkT.lookup 120462 = some (100000, 8135) := by decide +kernel
theorem kCk_120514 : zCkT.lookup 120514 = some (1103515245, 9005) := by decide +kernel
theorem kCk_140265 : zCkT.lookup 140265 = some (1431655765, 1095) := by decide +kernel
theorem kCk_140266 : zCkT.lookup 140266 = some (858993459, 1096) := by decide +kernel
theorem kCk_140267 : zCkT.lookup 140267 = some (252645135, 1097) := by decide +kernel
theorem kCk_52 : zCkT.lookup 52 = some (1103515245, 5181) := by decide +kernel
theorem kDk_120167 : zDkT.lookup 120167 = some (999, 7078) := by decide +kernel
theorem kDk_120169 : zDkT.lookup 120169 = some (255, 7187) := by decide +kernel
theorem kDk_120171 : zDkT.lookup 120171 = some (7, 7011) := by decide +kernel
theorem kDk_120173 : zDkT.lookup 120173 = some (4, 7015) := by decide +kernel
theorem kDk_120175 : zDkT.lookup 120175 = some (64, 7016) := by decide +kernel
theorem kDk_120210 : zDkT.lookup 120210 = some (3, 7074) := by decide +kernel
theorem kDk_120238 : zDkT.lookup 120238 = some (32, 7114) := by decide +kernel
theorem kDk_120240 : zDkT.lookup 120240 = some (97, 7115) := by decide +kernel
theorem kDk_120242 : zDkT.lookup 120242 = some (-1, 7116) := by decide +kernel
theorem kDk_120247 : zDkT.lookup 120247 = some (10, 7120) := by decide +kernel
theorem kDk_120249 : zDkT.lookup 120249 = some (48, 7121) := by decide +kernel
theorem kDk_120251 : zDkT.lookup 120251 = some (100000, 7122) := by decide +kernel
theorem kDk_120309 : zDkT.lookup 120309 = some (6, 7162) := by decide +kernel
theorem kDk_120314 : zDkT.lookup 120314 = some (99, 7175) := by decide +kernel
theorem kDk_120421 : zDkT.lookup 120421 = some (500, 8070) := by decide +kernel
theorem kDk_120469 : zDkT.lookup 120469 = some (2, 8144) := by decide +kernel
theorem kDk_120493 : zDkT.lookup 120493 = some (9187201950435737471, 8210) := by decide +kernel
theorem kDk_120495 : zDkT.lookup 120495 = some (-72340172838076674, 8211) := by decide +kernel
theorem kDk_120512 : zDkT.lookup 120512 = some (-35604928818740737, 8227) := by decide +kernel
theorem kDk_120518 : zDkT.lookup 120518 = some (100, 8236) := by decide +kernel
theorem kDk_120544 : zDkT.lookup 120544 = some (12, 9050) := by decide +kernel
theorem kDk_120546 : zDkT.lookup 120546 = some (16, 9051) := by decide +kernel
theorem kDk_130018 : zDkT.lookup 130018 = some (4294967295, 9052) := by decide +kernel
theorem kDk_150314 : zDkT.lookup 150314 = some (6148914691236517205, 3036) := by decide +kernel
theorem kDk_150316 : zDkT.lookup 150316 = some (3689348814741910323, 3037) := by decide +kernel
theorem kDk_150318 : zDkT.lookup 150318 = some (1085102592571150095, 3038) := by decide +kernel
theorem kDk_20040 : zDkT.lookup 20040 = some (-35604928818740737, 3039) := by decide +kernel
theorem kDk_56 : zDkT.lookup 56 = some (9187201950435737471, 5108) := by decide +kernel
theorem kDk_58 : zDkT.lookup 58 = some (-72340172838076674, 5109) := by decide +kernel
theorem kDk_64 : zDkT.lookup 64 = some (-1, 5110) := by decide +kernel
theorem kDk_74 : zDkT.lookup 74 = some (-35604928818740737, 5145) := by decide +kernel
theorem kDk_89 : zDkT.lookup 89 = some (255, 3043) := by decide +kernel
theorem kFk_100009 : zFkT.lookup 100009 = some (10, 0, 2, 1, 1100) := by decide +kernel
theorem kFk_100015 : zFkT.lookup 100015 = some (10, 1, 2, 1, 1103) := by decide +kernel
theorem kFk_10014 : zFkT.lookup 10014 = some (1, 0, 0, 0, 1163) := by decide +kernel
theorem kFk_10018 : zFkT.lookup 10018 = some (1, 1, 0, 0, 1167) := by decide +kernel
theorem kFk_10021 : zFkT.lookup 10021 = some (1, 2, 0, 0, 1171) := by decide +kernel
theorem kFk_10024 : zFkT.lookup 10024 = some (1, 3, 0, 0, 1175) := by decide +kernel
theorem kFk_10027 : zFkT.lookup 10027 = some (1, 4, 0, 0, 1179) := by decide +kernel
theorem kFk_10030 : zFkT.lookup 10030 = some (1, 5, 0, 0, 1183) := by decide +kernel
theorem kFk_10033 : zFkT.lookup 10033 = some (1, 6, 0, 0, 1185) := by decide +kernel
theorem kFk_10036 : zFkT.lookup 10036 = some (1, 7, 3, 0, 1187) := by decide +kernel
theorem kFk_10040 : zFkT.lookup 10040 = some (1, 8, 3, 0, 1189) := by decide +kernel
theorem kFk_110011 : zFkT.lookup 110011 = some (11, 0, 2, 1, 2164) := by decide +kernel
theorem kFk_110019 : zFkT.lookup 110019 = some (11, 1, 2, 1, 2165) := by decide +kernel
theorem kFk_110026 : zFkT.lookup 110026 = some (11, 6, 2, 1, 2170) := by decide +kernel
theorem kFk_110035 : zFkT.lookup 110035 = some (11, 2, 2, 1, 2166) := by decide +kernel
theorem kFk_110039 : zFkT.lookup 110039 = some (11, 3, 2, 1, 2167) := by decide +kernel
theorem kFk_110042 : zFkT.lookup 110042 = some (11, 4, 3, 0, 2168) := by decide +kernel
theorem kFk_110046 : zFkT.lookup 110046 = some (11, 5, 2, 1, 2169) := by decide +kernel
theorem kFk_110053 : zFkT.lookup 110053 = some (11, 7, 2, 1, 2171) := by decide +kernel
theorem kFk_110060 : zFkT.lookup 110060 = some (11, 8, 2, 1, 2172) := by decide +kernel
theorem kFk_110064 : zFkT.lookup 110064 = some (11, 9, 2, 1, 2173) := by decide +kernel
theorem kFk_110086 : zFkT.lookup 110086 = some (8, 1, 0, 0, 1040) := by decide +kernel
theorem kFk_110094 : zFkT.lookup 110094 = some (8, 0, 0, 0, 1038) := by decide +kernel
theorem kFk_110101 : zFkT.lookup 110101 = some (8, 3, 2, 1, 1044) := by decide +kernel
theorem kFk_110111 : zFkT.lookup 110111 = some (8, 2, 0, 0, 1042) := by decide +kernel
theorem kFk_110120 : zFkT.lookup 110120 = some (3, 0, 2, 1, 2091) := by decide +kernel
theorem kFk_110135 : zFkT.lookup 110135 = some (3, 1, 0, 0, 2093) := by decide +kernel
theorem kFk_110142 : zFkT.lookup 110142 = some (2, 0, 0, 0, 1129) := by decide +kernel
theorem kFk_110145 : zFkT.lookup 110145 = some (2, 1, 0, 0, 1131) := by decide +kernel
theorem kFk_110148 : zFkT.lookup 110148 = some (2, 2, 0, 0, 1134) := by decide +kernel
theorem kFk_110151 : zFkT.lookup 110151 = some (2, 3, 0, 0, 1137) := by decide +kernel
theorem kFk_110154 : zFkT.lookup 110154 = some (9, 0, 0, 0, 1062) := by decide +kernel
theorem kFk_110158 : zFkT.lookup 110158 = some (3, 3, 0, 0, 2098) := by decide +kernel
theorem kFk_110161 : zFkT.lookup 110161 = some (3, 2, 2, 1, 2096) := by decide +kernel
theorem kFk_110172 : zFkT.lookup 110172 = some (1, 0, 0, 0, 1166) := by decide +kernel
theorem kFk_110177 : zFkT.lookup 110177 = some (1, 1, 0, 0, 1170) := by decide +kernel
theorem kFk_110180 : zFkT.lookup 110180 = some (1, 2, 0, 0, 1174) := by decide +kernel
theorem kFk_110183 : zFkT.lookup 110183 = some (1, 3, 0, 0, 1178) := by decide +kernel
theorem kFk_110186 : zFkT.lookup 110186 = some (1, 4, 0, 0, 1182) := by decide +kernel
theorem kFk_110189 : zFkT.lookup 110189 = some (3, 4, 2, 1, 2100) := by decide +kernel
theorem kFk_110196 : zFkT.lookup 110196 = some (1, 8, 3, 0, 1191) := by decide +kernel
theorem kFk_110205 : zFkT.lookup 110205 = some (10, 0, 2, 1, 1102) := by decide +kernel
theorem kFk_110217 : zFkT.lookup 110217 = some (6, 0, 2, 1, 2056) := by decide +kernel
theorem kFk_110228 : zFkT.lookup 110228 = some (7, 0, 2, 1, 2020) := by decide +kernel
theorem kFk_110250 : zFkT.lookup 110250 = some (6, 2, 0, 0, 2060) := by decide +kernel
theorem kFk_110253 : zFkT.lookup 110253 = some (6, 3, 0, 0, 2062) := by decide +kernel
theorem kFk_110270 : zFkT.lookup 110270 = some (5, 0, 0, 0, 2139) := by decide +kernel
theorem kFk_110278 : zFkT.lookup 110278 = some (5, 1, 0, 0, 2141) := by decide +kernel
theorem kFk_110281 : zFkT.lookup 110281 = some (5, 2, 0, 0, 2143) := by decide +kernel
theorem kFk_110284 : zFkT.lookup 110284 = some (5, 3, 0, 0, 2145) := by decide +kernel
theorem kFk_110305 : zFkT.lookup 110305 = some (3, 5, 2, 1, 2102) := by decide +kernel
theorem kFk_110315 : zFkT.lookup 110315 = some (4, 0, 0, 0, 1218) := by decide +kernel
theorem kFk_110321 : zFkT.lookup 110321 = some (4, 1, 2, 1, 1220) := by decide +kernel
theorem kFk_110324 : zFkT.lookup 110324 = some (4, 2, 2, 1, 1222) := by decide +kernel
theorem kFk_110334 : zFkT.lookup 110334 = some (2, 4, 1, 0, 1140) := by decide +kernel
theorem kFk_110360 : zFkT.lookup 110360 = some (3, 6, 2, 1, 2104) := by decide +kernel
theorem kFk_110370 : zFkT.lookup 110370 = some (0, 1, 2, 1, 1239) := by decide +kernel
theorem kFk_110373 : zFkT.lookup 110373 = some (0, 0, 0, 0, 1237) := by decide +kernel
theorem kFk_110376 : zFkT.lookup 110376 = some (3, 7, 2, 1, 2106) := by decide +kernel
theorem kFk_110382 : zFkT.lookup 110382 = some (6, 5, 0, 0, 2066) := by decide +kernel
theorem kFk_110384 : zFkT.lookup 110384 = some (6, 1, 0, 0, 2058) := by decide +kernel
theorem kFk_110385 : zFkT.lookup 110385 = some (6, 4, 0, 0, 2064) := by decide +kernel
theorem kFk_110391 : zFkT.lookup 110391 = some (6, 6, 0, 0, 2068) := by decide +kernel
theorem kFk_120007 : zFkT.lookup 120007 = some (12, 0, 2, 1, 6045) := by decide +kernel
theorem kFk_120013 : zFkT.lookup 120013 = some (12, 1, 2, 1, 6046) := by decide +kernel
theorem kFk_120016 : zFkT.lookup 120016 = some (12, 2, 2, 1, 6047) := by decide +kernel
theorem kFk_120021 : zFkT.lookup 120021 = some (12, 3, 2, 1, 6048) := by decide +kernel
theorem kFk_120024 : zFkT.lookup 120024 = some (12, 4, 2, 1, 6049) := by decide +kernel
theorem kFk_120027 : zFkT.lookup 120027 = some (12, 5, 2, 1, 6050) := by decide +kernel
theorem kFk_120031 : zFkT.lookup 120031 = some (12, 6, 2, 1, 6051) := by decide +kernel
theorem kFk_120034 : zFkT.lookup 120034 = some (12, 8, 2, 1, 6053) := by decide +kernel
theorem kFk_120037 : zFkT.lookup 120037 = some (12, 10, 2, 1, 6055) := by decide +kernel
theorem kFk_120040 : zFkT.lookup 120040 = some (12, 11, 2, 1, 6056) := by decide +kernel
theorem kFk_120043 : zFkT.lookup 120043 = some (12, 12, 2, 1, 6057) := by decide +kernel
theorem kFk_120046 : zFkT.lookup 120046 = some (12, 13, 2, 1, 6058) := by decide +kernel
theorem kFk_120049 : zFkT.lookup 120049 = some (12, 14, 2, 1, 6059) := by decide +kernel
theorem kFk_120052 : zFkT.lookup 120052 = some (12, 16, 2, 1, 6061) := by decide +kernel
theorem kFk_120055 : zFkT.lookup 120055 = some (12, 17, 2, 1, 6062) := by decide +kernel
theorem kFk_120058 : zFkT.lookup 120058 = some (12, 18, 2, 1, 6063) := by decide +kernel
theorem kFk_120061 : zFkT.lookup 120061 = some (12, 19, 2, 1, 6064) := by decide +kernel
theorem kFk_120064 : zFkT.lookup 120064 = some (12, 20, 2, 1, 6065) := by decide +kernel
theorem kFk_120067 : zFkT.lookup 120067 = some (12, 21, 2, 1, 6066) := by decide +kernel
theorem kFk_120070 : zFkT.lookup 120070 = some (12, 22, 2, 1, 6067) := by decide +kernel
theorem kFk_120073 : zFkT.lookup 120073 = some (12, 23, 2, 1, 6068) := by decide +kernel
theorem kFk_120076 : zFkT.lookup 120076 = some (12, 24, 2, 1, 6069) := by decide +kernel
theorem kFk_120079 : zFkT.lookup 120079 = some (12, 25, 2, 1, 6070) := by decide +kernel
theorem kFk_120082 : zFkT.lookup 120082 = some (12, 26, 2, 1, 6071) := by decide +kernel
theorem kFk_120085 : zFkT.lookup 120085 = some (12, 27, 0, 0, 6072) := by decide +kernel
theorem kFk_120089 : zFkT.lookup 120089 = some (12, 29, 2, 1, 6074) := by decide +kernel
theorem kFk_120092 : zFkT.lookup 120092 = some (12, 30, 2, 1, 6075) := by decide +kernel
theorem kFk_120097 : zFkT.lookup 120097 = some (12, 36, 2, 1, 6081) := by decide +kernel
theorem kFk_120100 : zFkT.lookup 120100 = some (12, 37, 2, 1, 6082) := by decide +kernel
theorem kFk_120121 : zFkT.lookup 120121 = some (12, 49, 2, 1, 6094) := by decide +kernel
theorem kFk_120131 : zFkT.lookup 120131 = some (12, 50, 2, 1, 6095) := by decide +kernel
theorem kFk_120134 : zFkT.lookup 120134 = some (12, 51, 2, 1, 6096) := by decide +kernel
theorem kFk_120137 : zFkT.lookup 120137 = some (12, 56, 2, 1, 6101) := by decide +kernel
theorem kFk_120140 : zFkT.lookup 120140 = some (12, 62, 2, 1, 6107) := by decide +kernel
theorem kFk_120143 : zFkT.lookup 120143 = some (12, 63, 2, 1, 6108) := by decide +kernel
theorem kFk_120146 : zFkT.lookup 120146 = some (12, 66, 2, 1, 6111) := by decide +kernel
theorem kFk_120152 : zFkT.lookup 120152 = some (12, 42, 2, 1, 6087) := by decide +kernel
theorem kFk_120156 : zFkT.lookup 120156 = some (12, 9, 0, 0, 6054) := by decide +kernel
theorem kFk_120206 : zFkT.lookup 120206 = some (12, 53, 3, 0, 6098) := by decide +kernel
theorem kFk_120219 : zFkT.lookup 120219 = some (12, 7, 0, 0, 6052) := by decide +kernel
theorem kFk_120222 : zFkT.lookup 120222 = some (12, 43, 0, 0, 6088) := by decide +kernel
theorem kFk_120225 : zFkT.lookup 120225 = some (12, 45, 0, 0, 6090) := by decide +kernel
theorem kFk_120228 : zFkT.lookup 120228 = some (12, 46, 1, 0, 6091) := by decide +kernel
theorem kFk_120232 : zFkT.lookup 120232 = some (12, 44, 0, 0, 6089) := by decide +kernel
theorem kFk_120253 : zFkT.lookup 120253 = some (12, 47, 0, 0, 6092) := by decide +kernel
theorem kFk_120272 : zFkT.lookup 120272 = some (12, 48, 0, 0, 6093) := by decide +kernel
theorem kFk_120300 : zFkT.lookup 120300 = some (12, 15, 0, 0, 6060) := by decide +kernel
theorem kFk_120339 : zFkT.lookup 120339 = some (12, 52, 3, 0, 6097) := by decide +kernel
theorem kFk_120362 : zFkT.lookup 120362 = some (12, 34, 0, 0, 6079) := by decide +kernel
theorem kFk_120365 : zFkT.lookup 120365 = some (12, 35, 0, 0, 6080) := by decide +kernel
theorem kFk_120368 : zFkT.lookup 120368 = some (12, 38, 0, 0, 6083) := by decide +kernel
theorem kFk_120371 : zFkT.lookup 120371 = some (12, 39, 0, 0, 6084) := by decide +kernel
theorem kFk_120374 : zFkT.lookup 120374 = some (12, 40, 0, 0, 6085) := by decide +kernel
theorem kFk_120377 : zFkT.lookup 120377 = some (12, 41, 0, 0, 6086) := by decide +kernel
theorem kFk_120395 : zFkT.lookup 120395 = some (12, 54, 0, 0, 6099) := by decide +kernel
theorem kFk_120398 : zFkT.lookup 120398 = some (12, 55, 0, 0, 6100) := by decide +kernel
theorem kFk_120429 : zFkT.lookup 120429 = some (12, 57, 0, 0, 6102) := by decide +kernel
theorem kFk_120438 : zFkT.lookup 120438 = some (12, 58, 0, 0, 6103) := by decide +kernel
theorem kFk_120447 : zFkT.lookup 120447 = some (12, 59, 0, 0, 6104) := by decide +kernel
theorem kFk_120450 : zFkT.lookup 120450 = some (12, 60, 0, 0, 6105) := by decide +kernel
theorem kFk_120453 : zFkT.lookup 120453 = some (12, 61, 0, 0, 6106) := by decide +kernel
theorem kFk_120463 : zFkT.lookup 120463 = some (12, 64, 0, 0, 6109) := by decide +kernel
theorem kFk_120466 : zFkT.lookup 120466 = some (12, 65, 0, 0, 6110) := by decide +kernel
theorem kFk_120474 : zFkT.lookup 120474 = some (12, 28, 0, 0, 6073) := by decide +kernel
theorem kFk_120524 : zFkT.lookup 120524 = some (12, 31, 0, 0, 6076) := by decide +kernel
theorem kFk_120527 : zFkT.lookup 120527 = some (12, 32, 0, 0, 6077) := by decide +kernel
theorem kFk_120537 : zFkT.lookup 120537 = some (12, 33, 2, 0, 6078) := by decide +kernel
theorem kFk_15 : zFkT.lookup 15 = some (0, 1, 2, 1, 1238) := by decide +kernel
theorem kFk_20015 : zFkT.lookup 20015 = some (2, 0, 0, 0, 1127) := by decide +kernel
theorem kFk_20019 : zFkT.lookup 20019 = some (2, 1, 0, 0, 1130) := by decide +kernel
theorem kFk_20022 : zFkT.lookup 20022 = some (2, 2, 0, 0, 1132) := by decide +kernel
theorem kFk_20025 : zFkT.lookup 20025 = some (2, 3, 0, 0, 1135) := by decide +kernel
theorem kFk_20028 : zFkT.lookup 20028 = some (2, 4, 1, 0, 1138) := by decide +kernel
theorem kFk_30011 : zFkT.lookup 30011 = some (3, 0, 2, 1, 2090) := by decide +kernel
theorem kFk_30018 : zFkT.lookup 30018 = some (3, 1, 0, 0, 2092) := by decide +kernel
theorem kFk_30024 : zFkT.lookup 30024 = some (3, 2, 2, 1, 2094) := by decide +kernel
theorem kFk_30029 : zFkT.lookup 30029 = some (3, 3, 0, 0, 2097) := by decide +kernel
theorem kFk_30032 : zFkT.lookup 30032 = some (3, 4, 2, 1, 2099) := by decide +kernel
theorem kFk_30039 : zFkT.lookup 30039 = some (3, 5, 2, 1, 2101) := by decide +kernel
theorem kFk_30046 : zFkT.lookup 30046 = some (3, 6, 2, 1, 2103) := by decide +kernel
theorem kFk_30055 : zFkT.lookup 30055 = some (3, 7, 2, 1, 2105) := by decide +kernel
theorem kFk_30059 : zFkT.lookup 30059 = some (3, 8, 2, 1, 2107) := by decide +kernel
theorem kFk_30062 : zFkT.lookup 30062 = some (3, 9, 2, 1, 2108) := by decide +kernel
theorem kFk_30091 : zFkT.lookup 30091 = some (1, 8, 3, 0, 1190) := by decide +kernel
theorem kFk_30095 : zFkT.lookup 30095 = some (1, 2, 0, 0, 1172) := by decide +kernel
theorem kFk_30104 : zFkT.lookup 30104 = some (1, 0, 0, 0, 1165) := by decide +kernel
theorem kFk_30107 : zFkT.lookup 30107 = some (1, 1, 0, 0, 1169) := by decide +kernel
theorem kFk_30118 : zFkT.lookup 30118 = some (2, 0, 0, 0, 1128) := by decide +kernel
theorem kFk_30121 : zFkT.lookup 30121 = some (2, 2, 0, 0, 1133) := by decide +kernel
theorem kFk_30124 : zFkT.lookup 30124 = some (2, 3, 0, 0, 1136) := by decide +kernel
theorem kFk_30131 : zFkT.lookup 30131 = some (6, 0, 2, 1, 2055) := by decide +kernel
theorem kFk_30155 : zFkT.lookup 30155 = some (1, 4, 0, 0, 1181) := by decide +kernel
theorem kFk_30158 : zFkT.lookup 30158 = some (2, 4, 1, 0, 1139) := by decide +kernel
theorem kFk_40009 : zFkT.lookup 40009 = some (4, 0, 0, 0, 1217) := by decide +kernel
theorem kFk_40015 : zFkT.lookup 40015 = some (4, 1, 2, 1, 1219) := by decide +kernel
theorem kFk_40019 : zFkT.lookup 40019 = some (4, 2, 2, 1, 1221) := by decide +kernel
theorem kFk_40028 : zFkT.lookup 40028 = some (7, 1, 0, 0, 2022) := by decide +kernel
theorem kFk_40050 : zFkT.lookup 40050 = some (7, 0, 2, 1, 2019) := by decide +kernel
theorem kFk_50011 : zFkT.lookup 50011 = some (5, 5, 2, 1, 2147) := by decide +kernel
theorem kFk_50015 : zFkT.lookup 50015 = some (5, 6, 2, 1, 2148) := by decide +kernel
theorem kFk_50034 : zFkT.lookup 50034 = some (5, 4, 0, 0, 2146) := by decide +kernel
theorem kFk_50056 : zFkT.lookup 50056 = some (5, 0, 0, 0, 2138) := by decide +kernel
theorem kFk_50059 : zFkT.lookup 50059 = some (5, 1, 0, 0, 2140) := by decide +kernel
theorem kFk_50062 : zFkT.lookup 50062 = some (5, 2, 0, 0, 2142) := by decide +kernel
theorem kFk_50065 : zFkT.lookup 50065 = some (5, 3, 0, 0, 2144) := by decide +kernel
theorem kFk_50072 : zFkT.lookup 50072 = some (3, 2, 2, 1, 2095) := by decide +kernel
theorem kFk_50076 : zFkT.lookup 50076 = some (1, 3, 0, 0, 1177) := by decide +kernel
theorem kFk_60014 : zFkT.lookup 60014 = some (6, 0, 2, 1, 2054) := by decide +kernel
theorem kFk_60020 : zFkT.lookup 60020 = some (6, 1, 0, 0, 2057) := by decide +kernel
theorem kFk_60024 : zFkT.lookup 60024 = some (6, 4, 0, 0, 2063) := by decide +kernel
theorem kFk_60027 : zFkT.lookup 60027 = some (6, 7, 2, 1, 2069) := by decide +kernel
theorem kFk_60031 : zFkT.lookup 60031 = some (6, 8, 2, 1, 2070) := by decide +kernel
theorem kFk_60038 : zFkT.lookup 60038 = some (6, 2, 0, 0, 2059) := by decide +kernel
theorem kFk_60041 : zFkT.lookup 60041 = some (6, 3, 0, 0, 2061) := by decide +kernel
theorem kFk_60044 : zFkT.lookup 60044 = some (6, 5, 0, 0, 2065) := by decide +kernel
theorem kFk_60047 : zFkT.lookup 60047 = some (6, 6, 0, 0, 2067) := by decide +kernel
theorem kFk_60063 : zFkT.lookup 60063 = some (7, 0, 2, 1, 2018) := by decide +kernel
theorem kFk_60069 : zFkT.lookup 60069 = some (7, 2, 0, 0, 2024) := by decide +kernel
theorem kFk_70009 : zFkT.lookup 70009 = some (7, 3, 2, 1, 2025) := by decide +kernel
theorem kFk_70015 : zFkT.lookup 70015 = some (7, 0, 2, 1, 2017) := by decide +kernel
theorem kFk_70019 : zFkT.lookup 70019 = some (7, 4, 2, 1, 2026) := by decide +kernel
theorem kFk_70022 : zFkT.lookup 70022 = some (7, 5, 2, 1, 2027) := by decide +kernel
theorem kFk_70025 : zFkT.lookup 70025 = some (7, 6, 2, 1, 2028) := by decide +kernel
theorem kFk_70028 : zFkT.lookup 70028 = some (7, 7, 2, 1, 2029) := by decide +kernel
theorem kFk_70032 : zFkT.lookup 70032 = some (7, 1, 0, 0, 2021) := by decide +kernel
theorem kFk_70036 : zFkT.lookup 70036 = some (7, 2, 0, 0, 2023) := by decide +kernel
theorem kFk_70045 : zFkT.lookup 70045 = some (7, 8, 0, 0, 2030) := by decide +kernel
theorem kFk_70048 : zFkT.lookup 70048 = some (7, 9, 0, 0, 2031) := by decide +kernel
theorem kFk_70051 : zFkT.lookup 70051 = some (10, 0, 2, 1, 1101) := by decide +kernel
theorem kFk_80009 : zFkT.lookup 80009 = some (8, 0, 0, 0, 1037) := by decide +kernel
theorem kFk_80015 : zFkT.lookup 80015 = some (8, 1, 0, 0, 1039) := by decide +kernel
theorem kFk_80018 : zFkT.lookup 80018 = some (8, 2, 0, 0, 1041) := by decide +kernel
theorem kFk_80021 : zFkT.lookup 80021 = some (8, 3, 2, 1, 1043) := by decide +kernel
theorem kFk_9 : zFkT.lookup 9 = some (0, 0, 0, 0, 1236) := by decide +kernel
theorem kFk_90009 : zFkT.lookup 90009 = some (9, 0, 0, 0, 1061) := by decide +kernel
theorem kFk_90015 : zFkT.lookup 90015 = some (9, 1, 2, 1, 1063) := by decide +kernel
theorem kFk_90024 : zFkT.lookup 90024 = some (9, 4, 0, 0, 1066) := by decide +kernel
theorem kFk_90034 : zFkT.lookup 90034 = some (1, 0, 0, 0, 1164) := by decide +kernel
theorem kFk_90051 : zFkT.lookup 90051 = some (9, 2, 0, 0, 1064) := by decide +kernel
theorem kFk_90054 : zFkT.lookup 90054 = some (9, 3, 0, 0, 1065) := by decide +kernel
theorem kFk_90057 : zFkT.lookup 90057 = some (9, 5, 0, 0, 1067) := by decide +kernel
theorem kFk_90060 : zFkT.lookup 90060 = some (1, 1, 0, 0, 1168) := by decide +kernel
theorem kFk_90067 : zFkT.lookup 90067 = some (1, 4, 0, 0, 1180) := by decide +kernel
theorem kFk_90076 : zFkT.lookup 90076 = some (1, 7, 3, 0, 1188) := by decide +kernel
theorem kFk_90088 : zFkT.lookup 90088 = some (1, 5, 0, 0, 1184) := by decide +kernel
theorem kFk_90093 : zFkT.lookup 90093 = some (1, 6, 0, 0, 1186) := by decide +kernel
theorem kFk_90098 : zFkT.lookup 90098 = some (1, 2, 0, 0, 1173) := by decide +kernel
theorem kFk_90102 : zFkT.lookup 90102 = some (1, 3, 0, 0, 1176) := by decide +kernel
theorem kGk_100027 : zGkT.lookup 100027 = some (0, 1098) := by decide +kernel
theorem kGk_110208 : zGkT.lookup 110208 = some (0, 4009) := by decide +kernel
theorem kGk_110237 : zGkT.lookup 110237 = some (1, 4051) := by decide +kernel
theorem kGk_120316 : zGkT.lookup 120316 = some (2, 7198) := by decide +kernel
theorem kGk_170038 : zGkT.lookup 170038 = some (10, 3135) := by decide +kernel
theorem kGk_171053 : zGkT.lookup 171053 = some (11, 3151) := by decide +kernel
theorem kGk_40043 : zGkT.lookup 40043 = some (1, 5043) := by decide +kernel
theorem kGk_60066 : zGkT.lookup 60066 = some (1, 4102) := by decide +kernel
theorem kGk_70060 : zGkT.lookup 70060 = some (1, 4058) := by decide +kernel
theorem kLk_100018 : zLkT.lookup 100018 = some (Ways_fromLesser, 1088, 1090, 0, 1004, 1091) := rfl
theorem kLk_100022 : zLkT.lookup 100022 = some (Integer_bitCount, 1092, 1093, 0, 1005, 1094) := rfl
theorem kLk_10009 : zLkT.lookup 10009 = some (Deed_clear, 1159, 1160, 1161, 1008, 1162) := rfl
theorem kLk_110015 : zLkT.lookup 110015 = some (Shelf_init, 1033, 1034, 0, 1002, 1035) := rfl
theorem kLk_110018 : zLkT.lookup 110018 = some (Tape_init, 1057, 1058, 0, 1003, 1059) := rfl
theorem kLk_110025 : zLkT.lookup 110025 = some (Ways_init, 1084, 1085, 0, 1004, 1086) := rfl
theorem kLk_110032 : zLkT.lookup 110032 = some (Land_init, 1112, 1113, 0, 1006, 1114) := rfl
theorem kLk_110052 : zLkT.lookup 110052 = some (Search_init, 2131, 2008, 0, 1011, 2009) := rfl
theorem kLk_110059 : zLkT.lookup 110059 = some (Quarrels_init, 2134, 2135, 0, 1013, 2136) := rfl
theorem kLk_110067 : zLkT.lookup 110067 = some (DC_isShelf, 2199, 2200, 0, 1001, 2201) := rfl
theorem kLk_110071 : zLkT.lookup 110071 = some (DC_refuse, 2202, 2204, 1, 1001, 2205) := rfl
theorem kLk_110075 : zLkT.lookup 110075 = some (Shelf_holdRow, 2206, 2207, 2208, 1002, 2209) := rfl
theorem kLk_110079 : zLkT.lookup 110079 = some (Shelf_hasField, 2214, 2215, 2216, 1002, 2217) := rfl
theorem kLk_110083 : zLkT.lookup 110083 = some (Shelf_hasRow, 2218, 2219, 2220, 1002, 2221) := rfl
theorem kLk_110090 : zLkT.lookup 110090 = some (Shelf_put, 2222, 2223, 2224, 1002, 2225) := rfl
theorem kLk_110097 : zLkT.lookup 110097 = some (Shelf_hasPart, 2234, 2235, 2236, 1002, 2237) := rfl
theorem kLk_110114 : zLkT.lookup 110114 = some (Land_hasField, 3013, 3014, 3015, 1006, 3016) := rfl
theorem kLk_110116 : zLkT.lookup 110116 = some (Shelf_holdField, 3017, 3018, 3019, 1002, 3020) := rfl
theorem kLk_110124 : zLkT.lookup 110124 = some (Field_isOf, 3025, 3026, 3027, 1007, 3028) := rfl
theorem kLk_110129 : zLkT.lookup 110129 = some (Field_tells, 3029, 3030, 3031, 1007, 3032) := rfl
theorem kLk_110132 : zLkT.lookup 110132 = some (DC_isYear, 3055, 3056, 0, 1001, 3057) := rfl
theorem kLk_110138 : zLkT.lookup 110138 = some (Land_addField, 3058, 3059, 3060, 1006, 3061) := rfl
theorem kLk_110155 : zLkT.lookup 110155 = some (Tape_add, 3075, 3076, 3077, 1003, 3078) := rfl
theorem kLk_110165 : zLkT.lookup 110165 = some (Tape_read, 3087, 3088, 3089, 1003, 3090) := rfl
theorem kLk_110169 : zLkT.lookup 110169 = some (Land_hasDeed, 3215, 3216, 3217, 1006, 3218) := rfl
theorem kLk_110192 : zLkT.lookup 110192 = some (Deed_lets, 3219, 3220, 3221, 1008, 3222) := rfl
theorem kLk_110199 : zLkT.lookup 110199 = some (DC_isWay, 3235, 3236, 0, 1001, 3237) := rfl
theorem kLk_110202 : zLkT.lookup 110202 = some (DC_isSet, 4002, 4003, 0, 1001, 4004) := rfl
theorem kLk_110211 : zLkT.lookup 110211 = some (Ways_ofTwo, 4014, 4015, 4016, 1004, 4017) := rfl
theorem kLk_110214 : zLkT.lookup 110214 = some (DC_areTwo, 4022, 4024, 15, 1001, 4025) := rfl
theorem kLk_110221 : zLkT.lookup 110221 = some (Land_asOf, 4026, 4027, 4028, 1006, 4029) := rfl
theorem kLk_110224 : zLkT.lookup 110224 = some (Land_fill, 4030, 4031, 4032, 1006, 4033) := rfl
theorem kLk_110233 : zLkT.lookup 110233 = some (Sets_pairs, 4047, 4048, 4049, 1012, 4050) := rfl
theorem kLk_110240 : zLkT.lookup 110240 = some (Sets_shrinkAll, 4053, 4054, 4055, 1012, 4056) := rfl
theorem kLk_110243 : zLkT.lookup 110243 = some (Land_canBe, 4079, 4080, 4081, 1006, 4082) := rfl
theorem kLk_110247 : zLkT.lookup 110247 = some (DC_searched, 4129, 4131, 21, 1001, 4132) := rfl
theorem kLk_110256 : zLkT.lookup 110256 = some (Ways_only, 4143, 4144, 0, 1004, 4145) := rfl
theorem kLk_110259 : zLkT.lookup 110259 = some (Search_runBehind, 4150, 4151, 4152, 1011, 4153) := rfl
theorem kLk_110262 : zLkT.lookup 110262 = some (DC_possible, 4159, 4161, 22, 1001, 4162) := rfl
theorem kLk_110266 : zLkT.lookup 110266 = some (Quarrels_examine, 4172, 4173, 4174, 1013, 4175) := rfl
theorem kLk_110273 : zLkT.lookup 110273 = some (Integer_bitCount, 4207, 1093, 0, 1005, 1094) := rfl
theorem kLk_110287 : zLkT.lookup 110287 = some (DC_tallyTellings, 4228, 4230, 29, 1001, 4231) := rfl
theorem kLk_110290 : zLkT.lookup 110290 = some (DC_bestPair, 4232, 4234, 30, 1001, 4235) := rfl
theorem kLk_110293 : zLkT.lookup 110293 = some (DC_greatestOf, 4236, 4238, 31, 1001, 4239) := rfl
theorem kLk_110296 : zLkT.lookup 110296 = some (DC_isOrder, 5011, 5012, 0, 1001, 5013) := rfl
theorem kLk_110299 : zLkT.lookup 110299 = some (Land_shortestRing, 5014, 4084, 4085, 1006, 4086) := rfl
theorem kLk_110302 : zLkT.lookup 110302 = some (Land_rankOf, 5019, 5020, 5021, 1006, 5022) := rfl
theorem kLk_110309 : zLkT.lookup 110309 = some (Plan_layOut, 5028, 5029, 5030, 1009, 5031) := rfl
theorem kLk_110318 : zLkT.lookup 110318 = some (Plan_hasCell, 5060, 5061, 5062, 1009, 5063) := rfl
theorem kLk_110327 : zLkT.lookup 110327 = some (Plan_wayOf, 5072, 5073, 5074, 1009, 5075) := rfl
theorem kLk_110330 : zLkT.lookup 110330 = some (Shelf_cells, 5089, 5090, 5091, 1002, 5092) := rfl
theorem kLk_110338 : zLkT.lookup 110338 = some (Long_bitCount, 5093, 3034, 0, 1016, 3035) := rfl
theorem kLk_110343 : zLkT.lookup 110343 = some (Board_wayOf, 5102, 5103, 0, 1010, 5104) := rfl
theorem kLk_110348 : zLkT.lookup 110348 = some (Land_isSo, 5115, 5116, 5117, 1006, 5118) := rfl
theorem kLk_110352 : zLkT.lookup 110352 = some (Land_isRight, 5131, 5132, 5133, 1006, 5134) := rfl
theorem kLk_110356 : zLkT.lookup 110356 = some (Land_isWhole, 5164, 5157, 5158, 1006, 5159) := rfl
theorem kLk_110364 : zLkT.lookup 110364 = some (Board_drawLand, 5169, 5170, 5171, 1010, 5172) := rfl
theorem kLk_110367 : zLkT.lookup 110367 = some (Board_foundWays, 5185, 5186, 5187, 1010, 5188) := rfl
theorem kLk_110379 : zLkT.lookup 110379 = some (Search_open, 4133, 4097, 4098, 1011, 4099) := rfl
theorem kLk_110388 : zLkT.lookup 110388 = some (Search_run, 4134, 4104, 4105, 1011, 4106) := rfl
theorem kLk_110394 : zLkT.lookup 110394 = some (Land_become, 5213, 5214, 5215, 1006, 5216) := rfl
theorem kLk_110398 : zLkT.lookup 110398 = some (DC_heldShelves, 6014, 6016, 39, 1001, 6017) := rfl
theorem kLk_110401 : zLkT.lookup 110401 = some (Sets_lessen, 4163, 4040, 4041, 1012, 4042) := rfl
theorem kLk_110405 : zLkT.lookup 110405 = some (Math_max, 5000, 5001, 0, 1021, 5002) := rfl
set_option maxRecDepth 100000 in
theorem kLk_120149 : zLkT.lookup 120149 = some (Mo_init_, 6042, 6043, 0, 1014, 6044) := rfl
set_option maxRecDepth 100000 in
theorem kLk_120159 : zLkT.lookup 120159 = some (Mo_in, 7012, 7013, 0, 1014, 7014) := rfl
set_option maxRecDepth 100000 in
theorem kLk_120163 : zLkT.lookup 120163 = some (Mo_isField, 7044, 7046, 41, 1014, 7047) := rfl
set_option maxRecDepth 100000 in
theorem kLk_120177 : zLkT.lookup 120177 = some (Mo_refuse, 7017, 7019, 40, 1014, 7020) := rfl
set_option maxRecDepth 100000 in
theorem kLk_120181 : zLkT.lookup 120181 = some (Mo_fit, 7025, 7026, 0, 1014, 7027) := rfl
set_option maxRecDepth 100000 in
theorem kLk_120185 : zLkT.lookup 120185 = some (Mo_rowOf, 7061, 7062, 0, 1014, 7063) := rfl
set_option maxRecDepth 100000 in
theorem kLk_120188 : zLkT.lookup 120188 = some (Mo_columnOf, 7064, 7065, 0, 1014, 7066) := rfl
set_option maxRecDepth 100000 in
theorem kLk_120191 : zLkT.lookup 120191 = some (Mo_isUnder, 7052, 7053, 0, 1014, 7054) := rfl
set_option maxRecDepth 100000 in
theorem kLk_120195 : zLkT.lookup 120195 = some (Mo_count, 7055, 7056, 0, 1014, 7057) := rfl
set_option maxRecDepth 100000 in
theorem kLk_120199 : zLkT.lookup 120199 = some (Mo_isRim, 7058, 7059, 0, 1014, 7060) := rfl
set_option maxRecDepth 100000 in
theorem kLk_120202 : zLkT.lookup 120202 = some (Mo_edgeOf, 7067, 7068, 0, 1014, 7069) := rfl
set_option maxRecDepth 100000 in
theorem kLk_120212 : zLkT.lookup 120212 = some (Mo_isYear, 7075, 7076, 0, 1014, 7077) := rfl
set_option maxRecDepth 100000 in
theorem kLk_120215 : zLkT.lookup 120215 = some (Mo_newField, 7079, 7081, 42, 1014, 7082) := rfl
set_option maxRecDepth 100000 in
theorem kLk_120235 : zLkT.lookup 120235 = some (Mo_isLetter, 7111, 7112, 0, 1014, 7113) := rfl
set_option maxRecDepth 100000 in
theorem kLk_120244 : zLkT.lookup 120244 = some (Mo_isDigit, 7117, 7118, 0, 1014, 7119) := rfl
set_option maxRecDepth 100000 in
theorem kLk_120256 : zLkT.lookup 120256 = some (String_length, 7138, 3128, 3129, 1017, 3130) := rfl
set_option maxRecDepth 100000 in
theorem kLk_120260 : zLkT.lookup 120260 = some (String_charAt, 7139, 3138, 3139, 1017, 3140) := rfl
set_option maxRecDepth 100000 in
theorem kLk_120264 : zLkT.lookup 120264 = some (Mo_letters, 7135, 7136, 0, 1014, 7137) := rfl
set_option maxRecDepth 100000 in
theorem kLk_120268 : zLkT.lookup 120268 = some (Mo_wrong, 7127, 7129, 46, 1014, 7130) := rfl
set_option maxRecDepth 100000 in
theorem kLk_120275 : zLkT.lookup 120275 = some (Mo_look, 7107, 7109, 44, 1014, 7110) := rfl
set_option maxRecDepth 100000 in
theorem kLk_120278 : zLkT.lookup 120278 = some (Mo_isWord, 7131, 7133, 47, 1014, 7134) := rfl
set_option maxRecDepth 100000 in
theorem kLk_120286 : zLkT.lookup 120286 = some (Mo_number, 7123, 7125, 45, 1014, 7126) := rfl
set_option maxRecDepth 100000 in
theorem kLk_120289 : zLkT.lookup 120289 = some (Mo_one, 7145, 7147, 49, 1014, 7148) := rfl
set_option maxRecDepth 100000 in
theorem kLk_120294 : zLkT.lookup 120294 = some (Mo_ways, 7140, 7142, 48, 1014, 7143) := rfl
set_option maxRecDepth 100000 in
theorem kLk_120303 : zLkT.lookup 120303 = some (Mo_read, 7103, 7105, 43, 1014, 7106) := rfl
set_option maxRecDepth 100000 in
theorem kLk_120306 : zLkT.lookup 120306 = some (Mo_isDeed, 7158, 7160, 50, 1014, 7161) := rfl
set_option maxRecDepth 100000 in
theorem kLk_120311 : zLkT.lookup 120311 = some (Mo_lets, 7163, 7165, 51, 1014, 7166) := rfl
set_option maxRecDepth 100000 in
theorem kLk_120319 : zLkT.lookup 120319 = some (Mo_isSet, 7184, 7185, 0, 1014, 7186) := rfl
set_option maxRecDepth 100000 in
theorem kLk_120322 : zLkT.lookup 120322 = some (Mo_turn, 7188, 7189, 0, 1014, 7190) := rfl
set_option maxRecDepth 100000 in
theorem kLk_120325 : zLkT.lookup 120325 = some (Mo_isWay, 7195, 7196, 0, 1014, 7197) := rfl
set_option maxRecDepth 100000 in
theorem kLk_120328 : zLkT.lookup 120328 = some (Mo_follows, 7204, 7205, 0, 1014, 7206) := rfl
set_option maxRecDepth 100000 in
theorem kLk_120332 : zLkT.lookup 120332 = some (Mo_counts, 7219, 7221, 54, 1014, 7222) := rfl
set_option maxRecDepth 100000 in
theorem kLk_120335 : zLkT.lookup 120335 = some (Mo_less, 7223, 7224, 0, 1014, 7225) := rfl
set_option maxRecDepth 100000 in
theorem kLk_120342 : zLkT.lookup 120342 = some (Mo_followsOf, 7234, 7236, 56, 1014, 7237) := rfl
set_option maxRecDepth 100000 in
theorem kLk_120345 : zLkT.lookup 120345 = some (Mo_isWhole, 7238, 7239, 0, 1014, 8000) := rfl
set_option maxRecDepth 100000 in
theorem kLk_120349 : zLkT.lookup 120349 = some (Mo_areTwo, 7211, 7213, 52, 1014, 7214) := rfl
set_option maxRecDepth 100000 in
theorem kLk_120352 : zLkT.lookup 120352 = some (Mo_makeSets, 7215, 7217, 53, 1014, 7218) := rfl
set_option maxRecDepth 100000 in
theorem kLk_120356 : zLkT.lookup 120356 = some (Mo_shrinkAll, 7230, 7232, 55, 1014, 7233) := rfl
set_option maxRecDepth 100000 in
theorem kLk_120359 : zLkT.lookup 120359 = some (Mo_greaterOf, 8044, 8045, 0, 1014, 8046) := rfl
set_option maxRecDepth 100000 in
theorem kLk_120380 : zLkT.lookup 120380 = some (Mo_lesserOf, 8041, 8042, 0, 1014, 8043) := rfl
set_option maxRecDepth 100000 in
theorem kLk_120383 : zLkT.lookup 120383 = some (Mo_nextWay, 8037, 8039, 64, 1014, 8040) := rfl
set_option maxRecDepth 100000 in
theorem kLk_120386 : zLkT.lookup 120386 = some (Mo_comeBack, 8047, 8049, 65, 1014, 8050) := rfl
set_option maxRecDepth 100000 in
theorem kLk_120389 : zLkT.lookup 120389 = some (Mo_choose, 8033, 8035, 63, 1014, 8036) := rfl
set_option maxRecDepth 100000 in
theorem kLk_120392 : zLkT.lookup 120392 = some (Mo_goOn, 8029, 8031, 62, 1014, 8032) := rfl
set_option maxRecDepth 100000 in
theorem kLk_120401 : zLkT.lookup 120401 = some (Mo_beginSearch, 8025, 8027, 61, 1014, 8028) := rfl
set_option maxRecDepth 100000 in
theorem kLk_120405 : zLkT.lookup 120405 = some (Mo_fewestIn, 8017, 8019, 59, 1014, 8020) := rfl
set_option maxRecDepth 100000 in
theorem kLk_120409 : zLkT.lookup 120409 = some (Mo_hasRing, 8013, 8015, 58, 1014, 8016) := rfl
set_option maxRecDepth 100000 in
theorem kLk_120412 : zLkT.lookup 120412 = some (Mo_search, 8021, 8023, 60, 1014, 8024) := rfl
set_option maxRecDepth 100000 in
theorem kLk_120415 : zLkT.lookup 120415 = some (Mo_canOf, 8009, 8011, 57, 1014, 8012) := rfl
set_option maxRecDepth 100000 in
theorem kLk_120418 : zLkT.lookup 120418 = some (Mo_wayIn, 8063, 8064, 0, 1014, 8065) := rfl
set_option maxRecDepth 100000 in
theorem kLk_120423 : zLkT.lookup 120423 = some (Mo_goBehind, 8071, 8073, 66, 1014, 8074) := rfl
set_option maxRecDepth 100000 in
theorem kLk_120426 : zLkT.lookup 120426 = some (Mo_mayOf, 8079, 8081, 67, 1014, 8082) := rfl
set_option maxRecDepth 100000 in
theorem kLk_120432 : zLkT.lookup 120432 = some (Mo_takeDeeds, 8099, 8101, 70, 1014, 8102) := rfl
set_option maxRecDepth 100000 in
theorem kLk_120435 : zLkT.lookup 120435 = some (Mo_named, 8103, 8105, 71, 1014, 8106) := rfl
set_option maxRecDepth 100000 in
theorem kLk_120441 : zLkT.lookup 120441 = some (Mo_findCans, 8095, 8097, 69, 1014, 8098) := rfl
set_option maxRecDepth 100000 in
theorem kLk_120444 : zLkT.lookup 120444 = some (Mo_findQuarrel, 8091, 8093, 68, 1014, 8094) := rfl
set_option maxRecDepth 100000 in
theorem kLk_120456 : zLkT.lookup 120456 = some (Mo_weightOf, 8119, 8121, 73, 1014, 8122) := rfl
set_option maxRecDepth 100000 in
theorem kLk_120459 : zLkT.lookup 120459 = some (Mo_findDoubt, 8115, 8117, 72, 1014, 8118) := rfl
set_option maxRecDepth 100000 in
theorem kLk_120471 : zLkT.lookup 120471 = some (Mo_findSettle, 8140, 8142, 74, 1014, 8143) := rfl
set_option maxRecDepth 100000 in
theorem kLk_120477 : zLkT.lookup 120477 = some (Mo_newCell, 8165, 8167, 76, 1014, 8168) := rfl
set_option maxRecDepth 100000 in
theorem kLk_120480 : zLkT.lookup 120480 = some (Mo_up, 8161, 8163, 75, 1014, 8164) := rfl
set_option maxRecDepth 100000 in
theorem kLk_120483 : zLkT.lookup 120483 = some (Mo_beyond, 8169, 8171, 77, 1014, 8172) := rfl
set_option maxRecDepth 100000 in
theorem kLk_120486 : zLkT.lookup 120486 = some (Mo_newMates, 8173, 8175, 78, 1014, 8176) := rfl
set_option maxRecDepth 100000 in
theorem kLk_120489 : zLkT.lookup 120489 = some (Mo_wayBy, 8189, 8190, 0, 1014, 8191) := rfl
set_option maxRecDepth 100000 in
theorem kLk_120497 : zLkT.lookup 120497 = some (Mo_near, 8207, 8208, 0, 1014, 8209) := rfl
set_option maxRecDepth 100000 in
theorem kLk_120501 : zLkT.lookup 120501 = some (Mo_wayOf, 8204, 8205, 0, 1014, 8206) := rfl
set_option maxRecDepth 100000 in
theorem kLk_120505 : zLkT.lookup 120505 = some (Mo_isSo, 8216, 8218, 79, 1014, 8219) := rfl
set_option maxRecDepth 100000 in
theorem kLk_120508 : zLkT.lookup 120508 = some (Mo_reached, 8224, 8225, 0, 1014, 8226) := rfl
set_option maxRecDepth 100000 in
theorem kLk_120515 : zLkT.lookup 120515 = some (Mo_below, 9001, 9003, 81, 1014, 9004) := rfl
set_option maxRecDepth 100000 in
theorem kLk_120520 : zLkT.lookup 120520 = some (Mo_box, 8237, 8239, 80, 1014, 9000) := rfl
set_option maxRecDepth 100000 in
theorem kLk_120530 : zLkT.lookup 120530 = some (Mo_over, 9035, 9036, 0, 1014, 9037) := rfl
set_option maxRecDepth 100000 in
theorem kLk_120533 : zLkT.lookup 120533 = some (Mo_takeSearch, 9038, 9040, 83, 1014, 9041) := rfl
set_option maxRecDepth 100000 in
theorem kLk_120540 : zLkT.lookup 120540 = some (Mo_init, 9030, 6021, 0, 1014, 6022) := rfl
set_option maxRecDepth 100000 in
theorem kLk_120541 : zLkT.lookup 120541 = some (Mo_takeFrom, 9031, 9033, 82, 1014, 9034) := rfl
set_option maxRecDepth 100000 in
theorem kLk_130009 : zLkT.lookup 130009 = some (DC_init, 1024, 1025, 0, 1001, 1026) := rfl
set_option maxRecDepth 100000 in
theorem kLk_130012 : zLkT.lookup 130012 = some (Mo_init, 6020, 6021, 0, 1014, 6022) := rfl
set_option maxRecDepth 100000 in
theorem kLk_130013 : zLkT.lookup 130013 = some (DC_row, 2195, 2196, 2197, 1001, 2198) := rfl
set_option maxRecDepth 100000 in
theorem kLk_130017 : zLkT.lookup 130017 = some (Mo_row, 7007, 7008, 7009, 1014, 7010) := rfl
set_option maxRecDepth 100000 in
theorem kLk_130020 : zLkT.lookup 130020 = some (DC_set, 2210, 2211, 2212, 1001, 2213) := rfl
set_option maxRecDepth 100000 in
theorem kLk_130024 : zLkT.lookup 130024 = some (Mo_set, 7021, 7022, 7023, 1014, 7024) := rfl
set_option maxRecDepth 100000 in
theorem kLk_130025 : zLkT.lookup 130025 = some (DC_copy, 2230, 2231, 2232, 1001, 2233) := rfl
set_option maxRecDepth 100000 in
theorem kLk_130029 : zLkT.lookup 130029 = some (Mo_copy, 7028, 7029, 7030, 1014, 7031) := rfl
set_option maxRecDepth 100000 in
theorem kLk_130030 : zLkT.lookup 130030 = some (DC_element, 3001, 3002, 3003, 1001, 3004) := rfl
set_option maxRecDepth 100000 in
theorem kLk_130034 : zLkT.lookup 130034 = some (Mo_element, 7032, 7033, 7034, 1014, 7035) := rfl
set_option maxRecDepth 100000 in
theorem kLk_130035 : zLkT.lookup 130035 = some (DC_holds, 3005, 3006, 3007, 1001, 3008) := rfl
set_option maxRecDepth 100000 in
theorem kLk_130039 : zLkT.lookup 130039 = some (Mo_holds, 7036, 7037, 7038, 1014, 7039) := rfl
set_option maxRecDepth 100000 in
theorem kLk_130040 : zLkT.lookup 130040 = some (DC_show, 3009, 3010, 3011, 1001, 3012) := rfl
set_option maxRecDepth 100000 in
theorem kLk_130044 : zLkT.lookup 130044 = some (Mo_show, 7040, 7041, 7042, 1014, 7043) := rfl
set_option maxRecDepth 100000 in
theorem kLk_130045 : zLkT.lookup 130045 = some (DC_says, 3021, 3022, 3023, 1001, 3024) := rfl
set_option maxRecDepth 100000 in
theorem kLk_130048 : zLkT.lookup 130048 = some (Mo_says, 7048, 7049, 7050, 1014, 7051) := rfl
set_option maxRecDepth 100000 in
theorem kLk_130049 : zLkT.lookup 130049 = some (DC_field, 3051, 3052, 3053, 1001, 3054) := rfl
set_option maxRecDepth 100000 in
theorem kLk_130052 : zLkT.lookup 130052 = some (Mo_field, 7070, 7071, 7072, 1014, 7073) := rfl
set_option maxRecDepth 100000 in
theorem kLk_130053 : zLkT.lookup 130053 = some (DC_fieldOf, 3063, 3064, 3065, 1001, 3066) := rfl
set_option maxRecDepth 100000 in
theorem kLk_130056 : zLkT.lookup 130056 = some (Mo_fieldOf, 7083, 7084, 7085, 1014, 7086) := rfl
set_option maxRecDepth 100000 in
theorem kLk_130057 : zLkT.lookup 130057 = some (DC_part, 3067, 3068, 3069, 1001, 3070) := rfl
set_option maxRecDepth 100000 in
theorem kLk_130060 : zLkT.lookup 130060 = some (Mo_part, 7087, 7088, 7089, 1014, 7090) := rfl
set_option maxRecDepth 100000 in
theorem kLk_130061 : zLkT.lookup 130061 = some (DC_feed, 3071, 3072, 3073, 1001, 3074) := rfl
set_option maxRecDepth 100000 in
theorem kLk_130064 : zLkT.lookup 130064 = some (Mo_feed, 7091, 7092, 7093, 1014, 7094) := rfl
set_option maxRecDepth 100000 in
theorem kLk_130065 : zLkT.lookup 130065 = some (DC_wipe, 3079, 3080, 3081, 1001, 3082) := rfl
set_option maxRecDepth 100000 in
theorem kLk_130069 : zLkT.lookup 130069 = some (Mo_wipe, 7095, 7096, 7097, 1014, 7098) := rfl
set_option maxRecDepth 100000 in
theorem kLk_130070 : zLkT.lookup 130070 = some (DC_deed, 3083, 3084, 3085, 1001, 3086) := rfl
set_option maxRecDepth 100000 in
theorem kLk_130073 : zLkT.lookup 130073 = some (Mo_deed, 7099, 7100, 7101, 1014, 7102) := rfl
set_option maxRecDepth 100000 in
theorem kLk_130074 : zLkT.lookup 130074 = some (DC_deedOf, 3211, 3212, 3213, 1001, 3214) := rfl
set_option maxRecDepth 100000 in
theorem kLk_130077 : zLkT.lookup 130077 = some (Mo_deedOf, 7154, 7155, 7156, 1014, 7157) := rfl
set_option maxRecDepth 100000 in
theorem kLk_130078 : zLkT.lookup 130078 = some (DC_drop, 3223, 3224, 3225, 1001, 3226) := rfl
set_option maxRecDepth 100000 in
theorem kLk_130082 : zLkT.lookup 130082 = some (Mo_drop, 7167, 7168, 7169, 1014, 7170) := rfl
set_option maxRecDepth 100000 in
theorem kLk_130083 : zLkT.lookup 130083 = some (DC_weigh, 3227, 3228, 3229, 1001, 3230) := rfl
set_option maxRecDepth 100000 in
theorem kLk_130086 : zLkT.lookup 130086 = some (Mo_weigh, 7171, 7172, 7173, 1014, 7174) := rfl
set_option maxRecDepth 100000 in
theorem kLk_130087 : zLkT.lookup 130087 = some (DC_mean, 3231, 3232, 3233, 1001, 3234) := rfl
set_option maxRecDepth 100000 in
theorem kLk_130090 : zLkT.lookup 130090 = some (Mo_mean, 7176, 7177, 7178, 1014, 7179) := rfl
set_option maxRecDepth 100000 in
theorem kLk_130091 : zLkT.lookup 130091 = some (DC_turned, 3238, 3239, 4000, 1001, 4001) := rfl
set_option maxRecDepth 100000 in
theorem kLk_130094 : zLkT.lookup 130094 = some (Mo_turned, 7180, 7181, 7182, 1014, 7183) := rfl
set_option maxRecDepth 100000 in
theorem kLk_130095 : zLkT.lookup 130095 = some (DC_three, 4005, 4006, 4007, 1001, 4008) := rfl
set_option maxRecDepth 100000 in
theorem kLk_130098 : zLkT.lookup 130098 = some (Mo_three, 7191, 7192, 7193, 1014, 7194) := rfl
set_option maxRecDepth 100000 in
theorem kLk_130099 : zLkT.lookup 130099 = some (DC_follow, 4010, 4011, 4012, 1001, 4013) := rfl
set_option maxRecDepth 100000 in
theorem kLk_130102 : zLkT.lookup 130102 = some (Mo_follow, 7200, 7201, 7202, 1014, 7203) := rfl
set_option maxRecDepth 100000 in
theorem kLk_130103 : zLkT.lookup 130103 = some (DC_ways, 4018, 4019, 4020, 1001, 4021) := rfl
set_option maxRecDepth 100000 in
theorem kLk_130106 : zLkT.lookup 130106 = some (Mo_ways_, 7207, 7208, 7209, 1014, 7210) := rfl
set_option maxRecDepth 100000 in
theorem kLk_130107 : zLkT.lookup 130107 = some (DC_shrink, 4043, 4044, 4045, 1001, 4046) := rfl
set_option maxRecDepth 100000 in
theorem kLk_130110 : zLkT.lookup 130110 = some (Mo_shrink, 7226, 7227, 7228, 1014, 7229) := rfl
set_option maxRecDepth 100000 in
theorem kLk_130111 : zLkT.lookup 130111 = some (DC_known, 4071, 4072, 4073, 1001, 4074) := rfl
set_option maxRecDepth 100000 in
theorem kLk_130114 : zLkT.lookup 130114 = some (Mo_known, 8001, 8002, 8003, 1014, 8004) := rfl
set_option maxRecDepth 100000 in
theorem kLk_130115 : zLkT.lookup 130115 = some (DC_can, 4075, 4076, 4077, 1001, 4078) := rfl
set_option maxRecDepth 100000 in
theorem kLk_130118 : zLkT.lookup 130118 = some (Mo_can, 8005, 8006, 8007, 1014, 8008) := rfl
set_option maxRecDepth 100000 in
theorem kLk_130119 : zLkT.lookup 130119 = some (DC_choose, 4125, 4126, 4127, 1001, 4128) := rfl
set_option maxRecDepth 100000 in
theorem kLk_130122 : zLkT.lookup 130122 = some (Mo_choose_, 8051, 8052, 8053, 1014, 8054) := rfl
set_option maxRecDepth 100000 in
theorem kLk_130123 : zLkT.lookup 130123 = some (DC_blind, 4135, 4136, 4137, 1001, 4138) := rfl
set_option maxRecDepth 100000 in
theorem kLk_130126 : zLkT.lookup 130126 = some (Mo_blind, 8055, 8056, 8057, 1014, 8058) := rfl
set_option maxRecDepth 100000 in
theorem kLk_130127 : zLkT.lookup 130127 = some (DC_told, 4139, 4140, 4141, 1001, 4142) := rfl
set_option maxRecDepth 100000 in
theorem kLk_130130 : zLkT.lookup 130130 = some (Mo_told, 8059, 8060, 8061, 1014, 8062) := rfl
set_option maxRecDepth 100000 in
theorem kLk_130131 : zLkT.lookup 130131 = some (DC_many, 4146, 4147, 4148, 1001, 4149) := rfl
set_option maxRecDepth 100000 in
theorem kLk_130134 : zLkT.lookup 130134 = some (Mo_many, 8066, 8067, 8068, 1014, 8069) := rfl
set_option maxRecDepth 100000 in
theorem kLk_130135 : zLkT.lookup 130135 = some (DC_may, 4155, 4156, 4157, 1001, 4158) := rfl
set_option maxRecDepth 100000 in
theorem kLk_130138 : zLkT.lookup 130138 = some (Mo_may, 8075, 8076, 8077, 1014, 8078) := rfl
set_option maxRecDepth 100000 in
theorem kLk_130139 : zLkT.lookup 130139 = some (DC_must, 4164, 4165, 4166, 1001, 4167) := rfl
set_option maxRecDepth 100000 in
theorem kLk_130142 : zLkT.lookup 130142 = some (Mo_must, 8083, 8084, 8085, 1014, 8086) := rfl
set_option maxRecDepth 100000 in
theorem kLk_130143 : zLkT.lookup 130143 = some (DC_quarrel, 4168, 4169, 4170, 1001, 4171) := rfl
set_option maxRecDepth 100000 in
theorem kLk_130146 : zLkT.lookup 130146 = some (Mo_quarrel, 8087, 8088, 8089, 1014, 8090) := rfl
set_option maxRecDepth 100000 in
theorem kLk_130147 : zLkT.lookup 130147 = some (DC_small, 4203, 4204, 4205, 1001, 4206) := rfl
set_option maxRecDepth 100000 in
theorem kLk_130150 : zLkT.lookup 130150 = some (Mo_small, 8107, 8108, 8109, 1014, 8110) := rfl
set_option maxRecDepth 100000 in
theorem kLk_130151 : zLkT.lookup 130151 = some (DC_doubt, 4208, 4209, 4210, 1001, 4211) := rfl
set_option maxRecDepth 100000 in
theorem kLk_130154 : zLkT.lookup 130154 = some (Mo_doubt, 8111, 8112, 8113, 1014, 8114) := rfl
set_option maxRecDepth 100000 in
theorem kLk_130155 : zLkT.lookup 130155 = some (DC_drops, 4212, 4213, 4214, 1001, 4215) := rfl
set_option maxRecDepth 100000 in
theorem kLk_130158 : zLkT.lookup 130158 = some (Mo_drops, 8123, 8124, 8125, 1014, 8126) := rfl
set_option maxRecDepth 100000 in
theorem kLk_130159 : zLkT.lookup 130159 = some (DC_rival, 4216, 4217, 4218, 1001, 4219) := rfl
set_option maxRecDepth 100000 in
theorem kLk_130162 : zLkT.lookup 130162 = some (Mo_rival, 8127, 8128, 8129, 1014, 8130) := rfl
set_option maxRecDepth 100000 in
theorem kLk_130163 : zLkT.lookup 130163 = some (DC_word, 4220, 4221, 4222, 1001, 4223) := rfl
set_option maxRecDepth 100000 in
theorem kLk_130166 : zLkT.lookup 130166 = some (Mo_word, 8131, 8132, 8133, 1014, 8134) := rfl
set_option maxRecDepth 100000 in
theorem kLk_130167 : zLkT.lookup 130167 = some (DC_settle, 4224, 4225, 4226, 1001, 4227) := rfl
set_option maxRecDepth 100000 in
theorem kLk_130170 : zLkT.lookup 130170 = some (Mo_settle, 8136, 8137, 8138, 1014, 8139) := rfl
set_option maxRecDepth 100000 in
theorem kLk_130171 : zLkT.lookup 130171 = some (DC_left, 5003, 5004, 5005, 1001, 5006) := rfl
set_option maxRecDepth 100000 in
theorem kLk_130174 : zLkT.lookup 130174 = some (Mo_left, 8145, 8146, 8147, 1014, 8148) := rfl
set_option maxRecDepth 100000 in
theorem kLk_130175 : zLkT.lookup 130175 = some (DC_ring, 5007, 5008, 5009, 1001, 5010) := rfl
set_option maxRecDepth 100000 in
theorem kLk_130178 : zLkT.lookup 130178 = some (Mo_ring, 8149, 8150, 8151, 1014, 8152) := rfl
set_option maxRecDepth 100000 in
theorem kLk_130179 : zLkT.lookup 130179 = some (DC_rank, 5015, 5016, 5017, 1001, 5018) := rfl
set_option maxRecDepth 100000 in
theorem kLk_130182 : zLkT.lookup 130182 = some (Mo_rank, 8153, 8154, 8155, 1014, 8156) := rfl
set_option maxRecDepth 100000 in
theorem kLk_130183 : zLkT.lookup 130183 = some (DC_lay, 5024, 5025, 5026, 1001, 5027) := rfl
set_option maxRecDepth 100000 in
theorem kLk_130186 : zLkT.lookup 130186 = some (Mo_lay, 8157, 8158, 8159, 1014, 8160) := rfl
set_option maxRecDepth 100000 in
theorem kLk_130187 : zLkT.lookup 130187 = some (DC_cell, 5056, 5057, 5058, 1001, 5059) := rfl
set_option maxRecDepth 100000 in
theorem kLk_130190 : zLkT.lookup 130190 = some (Mo_cell, 8177, 8178, 8179, 1014, 8180) := rfl
set_option maxRecDepth 100000 in
theorem kLk_130191 : zLkT.lookup 130191 = some (DC_mate, 5064, 5065, 5066, 1001, 5067) := rfl
set_option maxRecDepth 100000 in
theorem kLk_130194 : zLkT.lookup 130194 = some (Mo_mate, 8181, 8182, 8183, 1014, 8184) := rfl
set_option maxRecDepth 100000 in
theorem kLk_130195 : zLkT.lookup 130195 = some (DC_laid, 5068, 5069, 5070, 1001, 5071) := rfl
set_option maxRecDepth 100000 in
theorem kLk_130198 : zLkT.lookup 130198 = some (Mo_laid, 8185, 8186, 8187, 1014, 8188) := rfl
set_option maxRecDepth 100000 in
theorem kLk_130199 : zLkT.lookup 130199 = some (DC_ground, 5085, 5086, 5087, 1001, 5088) := rfl
set_option maxRecDepth 100000 in
theorem kLk_130202 : zLkT.lookup 130202 = some (Mo_ground, 8192, 8193, 8194, 1014, 8195) := rfl
set_option maxRecDepth 100000 in
theorem kLk_130203 : zLkT.lookup 130203 = some (DC_groundOf, 5094, 5095, 5096, 1001, 5097) := rfl
set_option maxRecDepth 100000 in
theorem kLk_130207 : zLkT.lookup 130207 = some (Mo_groundOf, 8196, 8197, 8198, 1014, 8199) := rfl
set_option maxRecDepth 100000 in
theorem kLk_130208 : zLkT.lookup 130208 = some (DC_lies, 5098, 5099, 5100, 1001, 5101) := rfl
set_option maxRecDepth 100000 in
theorem kLk_130211 : zLkT.lookup 130211 = some (Mo_lies, 8200, 8201, 8202, 1014, 8203) := rfl
set_option maxRecDepth 100000 in
theorem kLk_130212 : zLkT.lookup 130212 = some (DC_judge, 5111, 5112, 5113, 1001, 5114) := rfl
set_option maxRecDepth 100000 in
theorem kLk_130215 : zLkT.lookup 130215 = some (Mo_judge, 8212, 8213, 8214, 1014, 8215) := rfl
set_option maxRecDepth 100000 in
theorem kLk_130216 : zLkT.lookup 130216 = some (DC_right, 5127, 5128, 5129, 1001, 5130) := rfl
set_option maxRecDepth 100000 in
theorem kLk_130219 : zLkT.lookup 130219 = some (Mo_right, 8220, 8221, 8222, 1014, 8223) := rfl
set_option maxRecDepth 100000 in
theorem kLk_130220 : zLkT.lookup 130220 = some (DC_whole, 5160, 5161, 5162, 1001, 5163) := rfl
set_option maxRecDepth 100000 in
theorem kLk_130223 : zLkT.lookup 130223 = some (Mo_whole, 8228, 8229, 8230, 1014, 8231) := rfl
set_option maxRecDepth 100000 in
theorem kLk_130224 : zLkT.lookup 130224 = some (DC_draw, 5165, 5166, 5167, 1001, 5168) := rfl
set_option maxRecDepth 100000 in
theorem kLk_130227 : zLkT.lookup 130227 = some (Mo_draw, 8232, 8233, 8234, 1014, 8235) := rfl
set_option maxRecDepth 100000 in
theorem kLk_130228 : zLkT.lookup 130228 = some (DC_found, 5189, 5190, 5191, 1001, 5192) := rfl
set_option maxRecDepth 100000 in
theorem kLk_130231 : zLkT.lookup 130231 = some (Mo_found, 9006, 9007, 9008, 1014, 9009) := rfl
set_option maxRecDepth 100000 in
theorem kLk_130232 : zLkT.lookup 130232 = some (DC_seed, 5193, 5194, 5195, 1001, 5196) := rfl
set_option maxRecDepth 100000 in
theorem kLk_130235 : zLkT.lookup 130235 = some (Mo_seed, 9010, 9011, 9012, 1014, 9013) := rfl
set_option maxRecDepth 100000 in
theorem kLk_130236 : zLkT.lookup 130236 = some (DC_begin, 5197, 5198, 5199, 1001, 5200) := rfl
set_option maxRecDepth 100000 in
theorem kLk_130239 : zLkT.lookup 130239 = some (Mo_begin, 9014, 9015, 9016, 1014, 9017) := rfl
set_option maxRecDepth 100000 in
theorem kLk_130240 : zLkT.lookup 130240 = some (DC_step, 5201, 5202, 5203, 1001, 5204) := rfl
set_option maxRecDepth 100000 in
theorem kLk_130243 : zLkT.lookup 130243 = some (Mo_step, 9018, 9019, 9020, 1014, 9021) := rfl
set_option maxRecDepth 100000 in
theorem kLk_130244 : zLkT.lookup 130244 = some (DC_search, 5205, 5206, 5207, 1001, 5208) := rfl
set_option maxRecDepth 100000 in
theorem kLk_130247 : zLkT.lookup 130247 = some (Mo_search_, 9022, 9023, 9024, 1014, 9025) := rfl
set_option maxRecDepth 100000 in
theorem kLk_130248 : zLkT.lookup 130248 = some (DC_image, 5209, 5210, 5211, 1001, 5212) := rfl
set_option maxRecDepth 100000 in
theorem kLk_130251 : zLkT.lookup 130251 = some (Mo_image, 9026, 9027, 9028, 1014, 9029) := rfl
set_option maxRecDepth 100000 in
theorem kLk_130252 : zLkT.lookup 130252 = some (DC_back, 6006, 6007, 6008, 1001, 6009) := rfl
set_option maxRecDepth 100000 in
theorem kLk_130255 : zLkT.lookup 130255 = some (Mo_back, 9042, 9043, 9044, 1014, 9045) := rfl
set_option maxRecDepth 100000 in
theorem kLk_130256 : zLkT.lookup 130256 = some (DC_status, 6010, 6011, 6012, 1001, 6013) := rfl
set_option maxRecDepth 100000 in
theorem kLk_130259 : zLkT.lookup 130259 = some (Mo_status, 9046, 9047, 9048, 1014, 9049) := rfl
set_option maxRecDepth 100000 in
theorem kLk_170335 : zLkT.lookup 170335 = some (String_coder, 3131, 3132, 3133, 1017, 3134) := rfl
set_option maxRecDepth 100000 in
theorem kLk_170492 : zLkT.lookup 170492 = some (String_isLatin1, 3141, 3142, 3143, 1017, 3144) := rfl
set_option maxRecDepth 100000 in
theorem kLk_170495 : zLkT.lookup 170495 = some (StringLatin1_charAt, 3145, 3146, 0, 1018, 3147) := rfl
set_option maxRecDepth 100000 in
theorem kLk_171059 : zLkT.lookup 171059 = some (Preconditions_checkIndex, 3153, 3154, 0, 1019, 3155) := rfl
set_option maxRecDepth 100000 in
theorem kLk_180009 : zLkT.lookup 180009 = some (String_checkIndex, 3148, 3149, 0, 1017, 3150) := rfl
theorem kLk_20009 : zLkT.lookup 20009 = some (Field_start, 1123, 1124, 1125, 1007, 1126) := rfl
theorem kLk_20032 : zLkT.lookup 20032 = some (Long_bitCount, 3033, 3034, 0, 1016, 3035) := rfl
theorem kLk_20042 : zLkT.lookup 20042 = some (Board_rowsOf, 3040, 3041, 0, 1010, 3042) := rfl
theorem kLk_20045 : zLkT.lookup 20045 = some (Board_least, 3044, 3045, 0, 1010, 3046) := rfl
theorem kLk_20049 : zLkT.lookup 20049 = some (Board_columnsOf, 3048, 3049, 0, 1010, 3050) := rfl
theorem kLk_25 : zLkT.lookup 25 = some (Board_drawBox, 5173, 5175, 37, 1010, 5176) := rfl
theorem kLk_29 : zLkT.lookup 29 = some (Board_wayOf, 5184, 5103, 0, 1010, 5104) := rfl
theorem kLk_30017 : zLkT.lookup 30017 = some (Field_init, 1119, 1120, 0, 1007, 1121) := rfl
theorem kLk_30028 : zLkT.lookup 30028 = some (Deed_init, 1155, 1156, 0, 1008, 1157) := rfl
theorem kLk_30038 : zLkT.lookup 30038 = some (Plan_init, 1213, 1214, 0, 1009, 1215) := rfl
theorem kLk_30045 : zLkT.lookup 30045 = some (Board_init, 1232, 1233, 0, 1010, 1234) := rfl
theorem kLk_30052 : zLkT.lookup 30052 = some (Search_init, 2007, 2008, 0, 1011, 2009) := rfl
theorem kLk_30065 : zLkT.lookup 30065 = some (Field_become, 5217, 5218, 5219, 1007, 5220) := rfl
theorem kLk_30069 : zLkT.lookup 30069 = some (Deed_become, 5221, 5222, 5223, 1008, 5224) := rfl
theorem kLk_30078 : zLkT.lookup 30078 = some (Plan_become, 5226, 5227, 5228, 1009, 5229) := rfl
theorem kLk_30081 : zLkT.lookup 30081 = some (Board_become, 5231, 5232, 5233, 1010, 5234) := rfl
theorem kLk_30084 : zLkT.lookup 30084 = some (Search_become, 5236, 5237, 5238, 1011, 5239) := rfl
theorem kLk_30087 : zLkT.lookup 30087 = some (Field_start, 3062, 1124, 1125, 1007, 1126) := rfl
theorem kLk_30098 : zLkT.lookup 30098 = some (Sets_open, 4034, 4035, 4036, 1012, 4037) := rfl
theorem kLk_30110 : zLkT.lookup 30110 = some (Deed_lets, 4038, 3220, 3221, 1008, 3222) := rfl
theorem kLk_30114 : zLkT.lookup 30114 = some (Sets_lessen, 4039, 4040, 4041, 1012, 4042) := rfl
theorem kLk_30127 : zLkT.lookup 30127 = some (Land_shortestRing, 4083, 4084, 4085, 1006, 4086) := rfl
theorem kLk_30135 : zLkT.lookup 30135 = some (Land_fill, 4095, 4031, 4032, 1006, 4033) := rfl
theorem kLk_30139 : zLkT.lookup 30139 = some (Search_open, 4096, 4097, 4098, 1011, 4099) := rfl
theorem kLk_30140 : zLkT.lookup 30140 = some (Search_run, 4103, 4104, 4105, 1011, 4106) := rfl
theorem kLk_30144 : zLkT.lookup 30144 = some (Land_drawArrows, 4087, 4089, 16, 1006, 4090) := rfl
theorem kLk_30147 : zLkT.lookup 30147 = some (Land_ringFrom, 4091, 4093, 17, 1006, 4094) := rfl
theorem kLk_30150 : zLkT.lookup 30150 = some (Math_max, 5023, 5001, 0, 1021, 5002) := rfl
theorem kLk_30162 : zLkT.lookup 30162 = some (Board_rowsOf, 5119, 3041, 0, 1010, 3042) := rfl
theorem kLk_30166 : zLkT.lookup 30166 = some (Board_greatest, 5120, 5121, 0, 1010, 5122) := rfl
theorem kLk_30169 : zLkT.lookup 30169 = some (Board_least, 5123, 3045, 0, 1010, 3046) := rfl
theorem kLk_30172 : zLkT.lookup 30172 = some (Board_columnsOf, 5124, 3049, 0, 1010, 3050) := rfl
theorem kLk_30175 : zLkT.lookup 30175 = some (Long_bitCount, 5125, 3034, 0, 1016, 3035) := rfl
theorem kLk_30180 : zLkT.lookup 30180 = some (Board_wayOf, 5126, 5103, 0, 1010, 5104) := rfl
theorem kLk_30184 : zLkT.lookup 30184 = some (Board_isPiece, 5135, 5136, 0, 1010, 5137) := rfl
theorem kLk_30188 : zLkT.lookup 30188 = some (Board_isDisc, 5141, 5142, 0, 1010, 5143) := rfl
theorem kLk_30191 : zLkT.lookup 30191 = some (Board_isBox, 5146, 5147, 0, 1010, 5148) := rfl
theorem kLk_30194 : zLkT.lookup 30194 = some (Land_isWhole, 5156, 5157, 5158, 1006, 5159) := rfl
theorem kLk_33 : zLkT.lookup 33 = some (Integer_bitCount, 3047, 1093, 0, 1005, 1094) := rfl
theorem kLk_39 : zLkT.lookup 39 = some (Board_drawBelow, 5177, 5179, 38, 1010, 5180) := rfl
theorem kLk_40031 : zLkT.lookup 40031 = some (Plan_upOf, 5032, 5033, 0, 1009, 5034) := rfl
theorem kLk_40035 : zLkT.lookup 40035 = some (Plan_addCell, 5038, 5040, 32, 1009, 5041) := rfl
theorem kLk_40039 : zLkT.lookup 40039 = some (Sets_pairs, 5042, 4048, 4049, 1012, 4050) := rfl
theorem kLk_40046 : zLkT.lookup 40046 = some (Plan_layPair, 5044, 5046, 33, 1009, 5047) := rfl
theorem kLk_40053 : zLkT.lookup 40053 = some (Ways_only, 5048, 4144, 0, 1004, 4145) := rfl
theorem kLk_40059 : zLkT.lookup 40059 = some (Plan_beyond, 5049, 5050, 0, 1009, 5051) := rfl
theorem kLk_40062 : zLkT.lookup 40062 = some (Plan_addMates, 5052, 5054, 34, 1009, 5055) := rfl
theorem kLk_40066 : zLkT.lookup 40066 = some (Plan_reached, 5035, 5036, 0, 1009, 5037) := rfl
theorem kLk_40070 : zLkT.lookup 40070 = some (Plan_isIn, 5076, 5078, 35, 1009, 5079) := rfl
theorem kLk_40074 : zLkT.lookup 40074 = some (Plan_hasNext, 5080, 5082, 36, 1009, 5083) := rfl
theorem kLk_40078 : zLkT.lookup 40078 = some (Plan_hasCell, 5084, 5061, 5062, 1009, 5063) := rfl
theorem kLk_42 : zLkT.lookup 42 = some (Math_min, 5183, 4069, 0, 1021, 4070) := rfl
theorem kLk_48 : zLkT.lookup 48 = some (Board_box, 5153, 5154, 0, 1010, 5155) := rfl
theorem kLk_50019 : zLkT.lookup 50019 = some (Land_asOf, 4176, 4027, 4028, 1006, 4029) := rfl
theorem kLk_50025 : zLkT.lookup 50025 = some (Integer_bitCount, 4177, 1093, 0, 1005, 1094) := rfl
theorem kLk_50030 : zLkT.lookup 50030 = some (Quarrels_list, 4178, 4180, 23, 1013, 4181) := rfl
theorem kLk_50038 : zLkT.lookup 50038 = some (Quarrels_isPartOfFine, 4182, 4184, 24, 1013, 4185) := rfl
theorem kLk_50042 : zLkT.lookup 50042 = some (Quarrels_deedsOf, 4186, 4188, 25, 1013, 4189) := rfl
theorem kLk_50045 : zLkT.lookup 50045 = some (Land_canBe, 4190, 4080, 4081, 1006, 4082) := rfl
theorem kLk_50049 : zLkT.lookup 50049 = some (Quarrels_findQuarrel, 4191, 4193, 26, 1013, 4194) := rfl
theorem kLk_50052 : zLkT.lookup 50052 = some (Quarrels_findDoubt, 4195, 4197, 27, 1013, 4198) := rfl
theorem kLk_50068 : zLkT.lookup 50068 = some (Quarrels_sumOf, 4199, 4201, 28, 1013, 4202) := rfl
theorem kLk_53 : zLkT.lookup 53 = some (Math_max, 5182, 5001, 0, 1021, 5002) := rfl
theorem kLk_60 : zLkT.lookup 60 = some (Board_nextTo, 5105, 5106, 0, 1010, 5107) := rfl
theorem kLk_60011 : zLkT.lookup 60011 = some (Sets_init, 2013, 2014, 0, 1012, 2015) := rfl
theorem kLk_60034 : zLkT.lookup 60034 = some (Sets_become, 6000, 6001, 6002, 1012, 6003) := rfl
theorem kLk_60056 : zLkT.lookup 60056 = some (Sets_pairs, 4100, 4048, 4049, 1012, 4050) := rfl
theorem kLk_60059 : zLkT.lookup 60059 = some (Sets_shrinkAll, 4101, 4054, 4055, 1012, 4056) := rfl
theorem kLk_60072 : zLkT.lookup 60072 = some (Sets_keep, 4107, 4065, 4066, 1012, 4067) := rfl
theorem kLk_60076 : zLkT.lookup 60076 = some (Sets_spread, 4108, 4060, 4061, 1012, 4062) := rfl
theorem kLk_60079 : zLkT.lookup 60079 = some (Search_goAhead, 4109, 4111, 18, 1011, 4112) := rfl
theorem kLk_60082 : zLkT.lookup 60082 = some (Search_goBack, 4113, 4115, 19, 1011, 4116) := rfl
theorem kLk_60085 : zLkT.lookup 60085 = some (Search_seeWhetherSpent, 4121, 4123, 20, 1011, 4124) := rfl
theorem kLk_60088 : zLkT.lookup 60088 = some (Search_run, 4154, 4104, 4105, 1011, 4106) := rfl
theorem kLk_60092 : zLkT.lookup 60092 = some (Sets_takeBack, 4117, 4118, 4119, 1012, 4120) := rfl
theorem kLk_66 : zLkT.lookup 66 = some (Board_flood, 5138, 5139, 0, 1010, 5140) := rfl
theorem kLk_70 : zLkT.lookup 70 = some (Board_isPiece, 5144, 5136, 0, 1010, 5137) := rfl
theorem kLk_70056 : zLkT.lookup 70056 = some (Sets_pairs, 4057, 4048, 4049, 1012, 4050) := rfl
theorem kLk_70063 : zLkT.lookup 70063 = some (Sets_spread, 4059, 4060, 4061, 1012, 4062) := rfl
theorem kLk_70067 : zLkT.lookup 70067 = some (Ways_ofTwo, 4063, 4015, 4016, 1004, 4017) := rfl
theorem kLk_70071 : zLkT.lookup 70071 = some (Sets_keep, 4064, 4065, 4066, 1012, 4067) := rfl
theorem kLk_70075 : zLkT.lookup 70075 = some (Math_min, 4068, 4069, 0, 1021, 4070) := rfl
theorem kLk_76 : zLkT.lookup 76 = some (Board_rowsOf, 5149, 3041, 0, 1010, 3042) := rfl
theorem kLk_80 : zLkT.lookup 80 = some (Board_columnsOf, 5150, 3049, 0, 1010, 3050) := rfl
theorem kLk_80025 : zLkT.lookup 80025 = some (Shelf_cut, 2226, 2228, 2, 1002, 2229) := rfl
theorem kLk_83 : zLkT.lookup 83 = some (Board_least, 5151, 3045, 0, 1010, 3046) := rfl
theorem kLk_86 : zLkT.lookup 86 = some (Board_greatest, 5152, 5121, 0, 1010, 5122) := rfl
theorem kLk_90019 : zLkT.lookup 90019 = some (Deed_clear, 3091, 1160, 1161, 1008, 1162) := rfl
theorem kLk_90027 : zLkT.lookup 90027 = some (Tape_advance, 3092, 3094, 3, 1003, 3095) := rfl
theorem kLk_90030 : zLkT.lookup 90030 = some (Tape_take, 3110, 3112, 6, 1003, 3113) := rfl
theorem kLk_90037 : zLkT.lookup 90037 = some (Tape_readSaid, 3114, 3116, 7, 1003, 3117) := rfl
theorem kLk_90041 : zLkT.lookup 90041 = some (Tape_readSecond, 3197, 3199, 12, 1003, 3200) := rfl
theorem kLk_90045 : zLkT.lookup 90045 = some (Tape_readYear, 3201, 3203, 13, 1003, 3204) := rfl
theorem kLk_90048 : zLkT.lookup 90048 = some (Tape_readWeight, 3206, 3208, 14, 1003, 3209) := rfl
theorem kLk_90063 : zLkT.lookup 90063 = some (Tape_orderHere, 3118, 3120, 8, 1003, 3121) := rfl
theorem kLk_90072 : zLkT.lookup 90072 = some (Tape_spells, 3123, 3125, 9, 1003, 3126) := rfl
theorem kLk_90080 : zLkT.lookup 90080 = some (Tape_readOne, 3178, 3180, 10, 1003, 3181) := rfl
theorem kLk_90085 : zLkT.lookup 90085 = some (Tape_waysHere, 3182, 3184, 11, 1003, 3185) := rfl
theorem kLk_90128 : zLkT.lookup 90128 = some (String_length, 3127, 3128, 3129, 1017, 3130) := rfl
theorem kLk_90133 : zLkT.lookup 90133 = some (Tape_byteAt, 3096, 3098, 4, 1003, 3099) := rfl
theorem kLk_90137 : zLkT.lookup 90137 = some (String_charAt, 3137, 3138, 3139, 1017, 3140) := rfl
theorem kLk_90141 : zLkT.lookup 90141 = some (Tape_isLetter, 3100, 3101, 0, 1003, 3102) := rfl
theorem kLk_90145 : zLkT.lookup 90145 = some (Tape_isDigit, 3103, 3104, 0, 1003, 3105) := rfl
theorem kLk_90148 : zLkT.lookup 90148 = some (Tape_valueHere, 3106, 3108, 5, 1003, 3109) := rfl
theorem kMk_120019 : zMkT.lookup 120019 = some (28, 21, 6024, 6025, 1054) := by decide +kernel
theorem kMk_120095 : zMkT.lookup 120095 = some (29, 20, 6026, 6027, 1109) := by decide +kernel
theorem kNk_110009 : zNkT.lookup 110009 = some (8, 4, 1030, 1032, 1002) := by decide +kernel
theorem kNk_110016 : zNkT.lookup 110016 = some (9, 6, 1055, 1056, 1003) := by decide +kernel
theorem kNk_110023 : zNkT.lookup 110023 = some (10, 2, 1082, 1083, 1004) := by decide +kernel
theorem kNk_110030 : zNkT.lookup 110030 = some (3, 10, 1110, 1111, 1006) := by decide +kernel
theorem kNk_110050 : zNkT.lookup 110050 = some (6, 9, 2130, 2006, 1011) := by decide +kernel
theorem kNk_110057 : zNkT.lookup 110057 = some (5, 7, 2132, 2133, 1013) := by decide +kernel
theorem kNk_120008 : zNkT.lookup 120008 = some (12, 67, 6041, 6019, 1014) := by decide +kernel
theorem kNk_130007 : zNkT.lookup 130007 = some (11, 10, 1022, 1023, 1001) := by decide +kernel
theorem kNk_130010 : zNkT.lookup 130010 = some (12, 67, 6018, 6019, 1014) := by decide +kernel
theorem kNk_30009 : zNkT.lookup 30009 = some (2, 5, 1116, 1118, 1007) := by decide +kernel
theorem kNk_30022 : zNkT.lookup 30022 = some (1, 9, 1152, 1154, 1008) := by decide +kernel
theorem kNk_30036 : zNkT.lookup 30036 = some (4, 3, 1211, 1212, 1009) := by decide +kernel
theorem kNk_30043 : zNkT.lookup 30043 = some (0, 2, 1230, 1231, 1010) := by decide +kernel
theorem kNk_30050 : zNkT.lookup 30050 = some (6, 9, 2005, 2006, 1011) := by decide +kernel
theorem kNk_60009 : zNkT.lookup 60009 = some (7, 10, 2011, 2012, 1012) := by decide +kernel
theorem kOk_100003 : zOkT.lookup 100003 = some 1087 := by decide +kernel
theorem kOk_10003 : zOkT.lookup 10003 = some 1158 := by decide +kernel
theorem kOk_110003 : zOkT.lookup 110003 = some 1027 := by decide +kernel
theorem kOk_120001 : zOkT.lookup 120001 = some 6023 := by decide +kernel
theorem kOk_20003 : zOkT.lookup 20003 = some 1122 := by decide +kernel
theorem kOk_3 : zOkT.lookup 3 = some 1235 := by decide +kernel
theorem kOk_30003 : zOkT.lookup 30003 = some 1115 := by decide +kernel
theorem kOk_40003 : zOkT.lookup 40003 = some 1216 := by decide +kernel
theorem kOk_50003 : zOkT.lookup 50003 = some 2137 := by decide +kernel
theorem kOk_60003 : zOkT.lookup 60003 = some 2010 := by decide +kernel
theorem kOk_70003 : zOkT.lookup 70003 = some 2016 := by decide +kernel
theorem kOk_80003 : zOkT.lookup 80003 = some 1036 := by decide +kernel
theorem kOk_90003 : zOkT.lookup 90003 = some 1060 := by decide +kernel
theorem kSk_170009 : zSkT.lookup 170009 = some (0, 9053) := by decide +kernel
theorem kSk_170015 : zSkT.lookup 170015 = some (1, 9054) := by decide +kernel
theorem kTk_120105 : zTkT.lookup 120105 = some (4, 6030) := by decide +kernel
theorem kTk_120107 : zTkT.lookup 120107 = some (5, 6031) := by decide +kernel
theorem kTk_120109 : zTkT.lookup 120109 = some (6, 6032) := by decide +kernel
theorem kTk_120111 : zTkT.lookup 120111 = some (7, 6033) := by decide +kernel
theorem kTk_120113 : zTkT.lookup 120113 = some (8, 6034) := by decide +kernel
theorem kTk_120115 : zTkT.lookup 120115 = some (9, 6035) := by decide +kernel
theorem kTk_120117 : zTkT.lookup 120117 = some (10, 6036) := by decide +kernel
theorem kTk_120119 : zTkT.lookup 120119 = some (11, 6037) := by decide +kernel
theorem kTk_120125 : zTkT.lookup 120125 = some (0, 6038) := by decide +kernel
theorem kTk_120127 : zTkT.lookup 120127 = some (1, 6039) := by decide +kernel
theorem kTk_120129 : zTkT.lookup 120129 = some (2, 6040) := by decide +kernel
theorem kTk_120282 : zTkT.lookup 120282 = some (12, 7149) := by decide +kernel
theorem kTk_120284 : zTkT.lookup 120284 = some (13, 7150) := by decide +kernel
theorem kTk_120288 : zTkT.lookup 120288 = some (3, 7144) := by decide +kernel
theorem kTk_120292 : zTkT.lookup 120292 = some (14, 7151) := by decide +kernel
theorem kTk_120297 : zTkT.lookup 120297 = some (15, 7152) := by decide +kernel
theorem kTk_120299 : zTkT.lookup 120299 = some (16, 7153) := by decide +kernel
theorem kTk_90070 : zTkT.lookup 90070 = some (3, 3177) := by decide +kernel
theorem kTk_90083 : zTkT.lookup 90083 = some (14, 3196) := by decide +kernel
theorem kTk_90091 : zTkT.lookup 90091 = some (13, 3195) := by decide +kernel
theorem kTk_90096 : zTkT.lookup 90096 = some (15, 3205) := by decide +kernel
theorem kTk_90100 : zTkT.lookup 90100 = some (16, 3210) := by decide +kernel
theorem kTk_90104 : zTkT.lookup 90104 = some (0, 3122) := by decide +kernel
theorem kTk_90106 : zTkT.lookup 90106 = some (1, 3175) := by decide +kernel
theorem kTk_90108 : zTkT.lookup 90108 = some (2, 3176) := by decide +kernel
theorem kTk_90110 : zTkT.lookup 90110 = some (4, 3186) := by decide +kernel
theorem kTk_90112 : zTkT.lookup 90112 = some (5, 3187) := by decide +kernel
theorem kTk_90114 : zTkT.lookup 90114 = some (6, 3188) := by decide +kernel
theorem kTk_90116 : zTkT.lookup 90116 = some (7, 3189) := by decide +kernel
theorem kTk_90118 : zTkT.lookup 90118 = some (8, 3190) := by decide +kernel
theorem kTk_90120 : zTkT.lookup 90120 = some (9, 3191) := by decide +kernel
theorem kTk_90122 : zTkT.lookup 90122 = some (10, 3192) := by decide +kernel
theorem kTk_90124 : zTkT.lookup 90124 = some (11, 3193) := by decide +kernel
theorem kTk_90126 : zTkT.lookup 90126 = some (12, 3194) := by decide +kernel
theorem kYk_110105 : zYkT.lookup 110105 = some 2238 := by decide +kernel
theorem kYk_19 : zYkT.lookup 19 = some 5235 := by decide +kernel
theorem kYk_30072 : zYkT.lookup 30072 = some 5225 := by decide +kernel
theorem kYk_40022 : zYkT.lookup 40022 = some 5230 := by decide +kernel
theorem kYk_60050 : zYkT.lookup 60050 = some 6005 := by decide +kernel
theorem kYk_70039 : zYkT.lookup 70039 = some 6004 := by decide +kernel
