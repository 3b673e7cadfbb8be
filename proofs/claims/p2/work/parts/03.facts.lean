set_option maxRecDepth 100000 in
theorem jyX6_init : jY yX6_init cX6_init 3 none 0 := ⟨lw_in 15 rfl, wn_X6, by decide +kernel, by decide +kernel⟩
set_option maxRecDepth 100000 in
theorem jiX6_init : yX6_init.name = "<init>" ∧ Cond.instanceMethod yX6_init ∈ lw_gt := ⟨rfl, lw_in 14 rfl⟩
set_option maxRecDepth 100000 in
theorem jyX2_init : jY yX2_init cX2_init 2 none 1 := ⟨lw_in 23 rfl, wn_X2, by decide +kernel, by decide +kernel⟩
set_option maxRecDepth 100000 in
theorem jiX2_init : yX2_init.name = "<init>" ∧ Cond.instanceMethod yX2_init ∈ lw_gt := ⟨rfl, lw_in 22 rfl⟩
set_option maxRecDepth 100000 in
theorem jyX0_init : jY yX0_init cX0_init 1 none 0 := ⟨lw_in 40 rfl, wn_X0, by decide +kernel, by decide +kernel⟩
set_option maxRecDepth 100000 in
theorem jiX0_init : yX0_init.name = "<init>" ∧ Cond.instanceMethod yX0_init ∈ lw_gt := ⟨rfl, lw_in 39 rfl⟩
set_option maxRecDepth 100000 in
theorem jyX3_init : jY yX3_init cX3_init 1 none 0 := ⟨lw_in 81 rfl, wn_X3, by decide +kernel, by decide +kernel⟩
set_option maxRecDepth 100000 in
theorem jiX3_init : yX3_init.name = "<init>" ∧ Cond.instanceMethod yX3_init ∈ lw_gt := ⟨rfl, lw_in 80 rfl⟩
set_option maxRecDepth 100000 in
theorem jyX5_init : jY yX5_init cX5_init 3 none 2 := ⟨lw_in 100 rfl, wn_X5, by decide +kernel, by decide +kernel⟩
set_option maxRecDepth 100000 in
theorem jiX5_init : yX5_init.name = "<init>" ∧ Cond.instanceMethod yX5_init ∈ lw_gt := ⟨rfl, lw_in 99 rfl⟩
set_option maxRecDepth 100000 in
theorem jyX1_init : jY yX1_init cX1_init 3 none 2 := ⟨lw_in 125 rfl, wn_X1, by decide +kernel, by decide +kernel⟩
set_option maxRecDepth 100000 in
theorem jiX1_init : yX1_init.name = "<init>" ∧ Cond.instanceMethod yX1_init ∈ lw_gt := ⟨rfl, lw_in 124 rfl⟩
set_option maxRecDepth 100000 in
theorem jyX6_type : jY yX6_type cX6_type 4 (some .int) 2 := ⟨lw_in 204 rfl, wn_X6, by decide +kernel, by decide +kernel⟩
set_option maxRecDepth 100000 in
theorem jiX6_type : Cond.instanceMethod yX6_type ∈ lw_gt ∧ Cond.selects yX6_type.cls yX6_type yX6_type ∈ lw_gt := ⟨lw_in 202 rfl, lw_in 203 rfl⟩
set_option maxRecDepth 100000 in
theorem jyX2_pushLowest : jY yX2_pushLowest cX2_pushLowest 5 (some .int) 2 := ⟨lw_in 208 rfl, wn_X2, by decide +kernel, by decide +kernel⟩
set_option maxRecDepth 100000 in
theorem jiX2_pushLowest : Cond.instanceMethod yX2_pushLowest ∈ lw_gt ∧ Cond.selects yX2_pushLowest.cls yX2_pushLowest yX2_pushLowest ∈ lw_gt := ⟨lw_in 206 rfl, lw_in 207 rfl⟩
set_option maxRecDepth 100000 in
theorem jyX2_push : jY yX2_push cX2_push 2 none 1 := ⟨lw_in 212 rfl, wn_X2, by decide +kernel, by decide +kernel⟩
set_option maxRecDepth 100000 in
theorem jiX2_push : Cond.instanceMethod yX2_push ∈ lw_gt ∧ Cond.selects yX2_push.cls yX2_push yX2_push ∈ lw_gt := ⟨lw_in 210 rfl, lw_in 211 rfl⟩
set_option maxRecDepth 100000 in
theorem jyX6_value : jY yX6_value cX6_value 2 (some .int) 1 := ⟨lw_in 216 rfl, wn_X6, by decide +kernel, by decide +kernel⟩
set_option maxRecDepth 100000 in
theorem jiX6_value : Cond.instanceMethod yX6_value ∈ lw_gt ∧ Cond.selects yX6_value.cls yX6_value yX6_value ∈ lw_gt := ⟨lw_in 214 rfl, lw_in 215 rfl⟩
set_option maxRecDepth 100000 in
theorem jyX6_addTyped : jY yX6_addTyped cX6_addTyped 2 (some .int) 1 := ⟨lw_in 220 rfl, wn_X6, by decide +kernel, by decide +kernel⟩
set_option maxRecDepth 100000 in
theorem jiX6_addTyped : Cond.instanceMethod yX6_addTyped ∈ lw_gt ∧ Cond.selects yX6_addTyped.cls yX6_addTyped yX6_addTyped ∈ lw_gt := ⟨lw_in 219 rfl, lw_pr 0 rfl⟩
set_option maxRecDepth 100000 in
theorem jyX0_accepts : jY yX0_accepts cX0_accepts 3 (some .boolean) 1 := ⟨lw_in 224 rfl, wn_X0, by decide +kernel, by decide +kernel⟩
set_option maxRecDepth 100000 in
theorem jiX0_accepts : Cond.instanceMethod yX0_accepts ∈ lw_gt ∧ Cond.selects yX0_accepts.cls yX0_accepts yX0_accepts ∈ lw_gt := ⟨lw_in 222 rfl, lw_in 223 rfl⟩
set_option maxRecDepth 100000 in
theorem jyX0_innermost : jY yX0_innermost cX0_innermost 1 (some .int) 0 := ⟨lw_in 228 rfl, wn_X0, by decide +kernel, by decide +kernel⟩
set_option maxRecDepth 100000 in
theorem jiX0_innermost : Cond.instanceMethod yX0_innermost ∈ lw_gt ∧ Cond.selects yX0_innermost.cls yX0_innermost yX0_innermost ∈ lw_gt := ⟨lw_in 226 rfl, lw_in 227 rfl⟩
set_option maxRecDepth 100000 in
theorem jyX0_isWhole : jY yX0_isWhole cX0_isWhole 1 (some .boolean) 0 := ⟨lw_in 232 rfl, wn_X0, by decide +kernel, by decide +kernel⟩
set_option maxRecDepth 100000 in
theorem jiX0_isWhole : Cond.instanceMethod yX0_isWhole ∈ lw_gt ∧ Cond.selects yX0_isWhole.cls yX0_isWhole yX0_isWhole ∈ lw_gt := ⟨lw_in 230 rfl, lw_in 231 rfl⟩
set_option maxRecDepth 100000 in
theorem jyX2_size : jY yX2_size cX2_size 1 (some .int) 0 := ⟨lw_in 236 rfl, wn_X2, by decide +kernel, by decide +kernel⟩
set_option maxRecDepth 100000 in
theorem jiX2_size : Cond.instanceMethod yX2_size ∈ lw_gt ∧ Cond.selects yX2_size.cls yX2_size yX2_size ∈ lw_gt := ⟨lw_in 234 rfl, lw_in 235 rfl⟩
set_option maxRecDepth 100000 in
theorem jyX0_hasRoom : jY yX0_hasRoom cX0_hasRoom 3 (some .boolean) 2 := ⟨lw_in 240 rfl, wn_X0, by decide +kernel, by decide +kernel⟩
set_option maxRecDepth 100000 in
theorem jiX0_hasRoom : Cond.instanceMethod yX0_hasRoom ∈ lw_gt ∧ Cond.selects yX0_hasRoom.cls yX0_hasRoom yX0_hasRoom ∈ lw_gt := ⟨lw_in 238 rfl, lw_in 239 rfl⟩
set_option maxRecDepth 100000 in
theorem jyX0_isContainer : jY yX0_isContainer cX0_isContainer 1 (some .boolean) 1 := ⟨lw_in 244 rfl, wn_X0, by decide +kernel, by decide +kernel⟩
set_option maxRecDepth 100000 in
theorem jtX0_isContainer : Cond.static yX0_isContainer ∈ lw_gt := lw_in 243 rfl
set_option maxRecDepth 100000 in
theorem jyX4_isText : jY yX4_isText cX4_isText 6 (some .boolean) 3 := ⟨lw_in 247 rfl, wn_X4, by decide +kernel, by decide +kernel⟩
set_option maxRecDepth 100000 in
theorem jtX4_isText : Cond.static yX4_isText ∈ lw_gt := lw_in 246 rfl
set_option maxRecDepth 100000 in
theorem jyX4_widthAt : jY yX4_widthAt cX4_widthAt 5 (some .int) 2 := ⟨lw_in 250 rfl, wn_X4, by decide +kernel, by decide +kernel⟩
set_option maxRecDepth 100000 in
theorem jtX4_widthAt : Cond.static yX4_widthAt ∈ lw_gt := lw_in 249 rfl
set_option maxRecDepth 100000 in
theorem jyX2_at : jY yX2_at cX2_at 2 (some .int) 1 := ⟨lw_in 254 rfl, wn_X2, by decide +kernel, by decide +kernel⟩
set_option maxRecDepth 100000 in
theorem jiX2_at : Cond.instanceMethod yX2_at ∈ lw_gt ∧ Cond.selects yX2_at.cls yX2_at yX2_at ∈ lw_gt := ⟨lw_in 252 rfl, lw_in 253 rfl⟩
set_option maxRecDepth 100000 in
theorem jyX4_isSecond : jY yX4_isSecond cX4_isSecond 2 (some .boolean) 2 := ⟨lw_in 257 rfl, wn_X4, by decide +kernel, by decide +kernel⟩
set_option maxRecDepth 100000 in
theorem jtX4_isSecond : Cond.static yX4_isSecond ∈ lw_gt := lw_in 256 rfl
set_option maxRecDepth 100000 in
theorem jyX4_isBetween : jY yX4_isBetween cX4_isBetween 3 (some .boolean) 3 := ⟨lw_in 260 rfl, wn_X4, by decide +kernel, by decide +kernel⟩
set_option maxRecDepth 100000 in
theorem jtX4_isBetween : Cond.static yX4_isBetween ∈ lw_gt := lw_in 259 rfl
set_option maxRecDepth 100000 in
theorem jyX0_put : jY yX0_put cX0_put 4 none 2 := ⟨lw_in 264 rfl, wn_X0, by decide +kernel, by decide +kernel⟩
set_option maxRecDepth 100000 in
theorem jiX0_put : Cond.instanceMethod yX0_put ∈ lw_gt ∧ Cond.selects yX0_put.cls yX0_put yX0_put ∈ lw_gt := ⟨lw_in 262 rfl, lw_in 263 rfl⟩
set_option maxRecDepth 100000 in
theorem jyX0_extendBy : jY yX0_extendBy cX0_extendBy 5 none 3 := ⟨lw_in 268 rfl, wn_X0, by decide +kernel, by decide +kernel⟩
set_option maxRecDepth 100000 in
theorem jiX0_extendBy : Cond.instanceMethod yX0_extendBy ∈ lw_gt ∧ Cond.selects yX0_extendBy.cls yX0_extendBy yX0_extendBy ∈ lw_gt := ⟨lw_in 266 rfl, lw_in 267 rfl⟩
set_option maxRecDepth 100000 in
theorem jyX0_extend : jY yX0_extend cX0_extend 2 none 1 := ⟨lw_in 273 rfl, wn_X0, by decide +kernel, by decide +kernel⟩
set_option maxRecDepth 100000 in
theorem jiX0_extend : Cond.instanceMethod yX0_extend ∈ lw_gt ∧ Cond.selects yX0_extend.cls yX0_extend yX0_extend ∈ lw_gt := ⟨lw_in 271 rfl, lw_in 272 rfl⟩
set_option maxRecDepth 100000 in
theorem jyX2_clear : jY yX2_clear cX2_clear 1 none 0 := ⟨lw_in 278 rfl, wn_X2, by decide +kernel, by decide +kernel⟩
set_option maxRecDepth 100000 in
theorem jiX2_clear : Cond.instanceMethod yX2_clear ∈ lw_gt ∧ Cond.selects yX2_clear.cls yX2_clear yX2_clear ∈ lw_gt := ⟨lw_in 276 rfl, lw_in 277 rfl⟩
set_option maxRecDepth 100000 in
theorem jyX0_size : jY yX0_size cX0_size 1 (some .int) 0 := ⟨lw_in 282 rfl, wn_X0, by decide +kernel, by decide +kernel⟩
set_option maxRecDepth 100000 in
theorem jiX0_size : Cond.instanceMethod yX0_size ∈ lw_gt ∧ Cond.selects yX0_size.cls yX0_size yX0_size ∈ lw_gt := ⟨lw_in 280 rfl, lw_in 281 rfl⟩
set_option maxRecDepth 100000 in
theorem jyX6_addPlain : jY yX6_addPlain cX6_addPlain 4 (some .int) 2 := ⟨lw_in 286 rfl, wn_X6, by decide +kernel, by decide +kernel⟩
set_option maxRecDepth 100000 in
theorem jiX6_addPlain : Cond.instanceMethod yX6_addPlain ∈ lw_gt ∧ Cond.selects yX6_addPlain.cls yX6_addPlain yX6_addPlain ∈ lw_gt := ⟨lw_in 285 rfl, lw_pr 1 rfl⟩
set_option maxRecDepth 100000 in
theorem jyX6_integer : jY yX6_integer cX6_integer 3 (some .int) 1 := ⟨lw_in 290 rfl, wn_X6, by decide +kernel, by decide +kernel⟩
set_option maxRecDepth 100000 in
theorem jiX6_integer : Cond.instanceMethod yX6_integer ∈ lw_gt ∧ Cond.selects yX6_integer.cls yX6_integer yX6_integer ∈ lw_gt := ⟨lw_in 288 rfl, lw_in 289 rfl⟩
set_option maxRecDepth 100000 in
theorem jyX6_real : jY yX6_real cX6_real 4 (some .int) 2 := ⟨lw_in 294 rfl, wn_X6, by decide +kernel, by decide +kernel⟩
set_option maxRecDepth 100000 in
theorem jiX6_real : Cond.instanceMethod yX6_real ∈ lw_gt ∧ Cond.selects yX6_real.cls yX6_real yX6_real ∈ lw_gt := ⟨lw_in 292 rfl, lw_in 293 rfl⟩
set_option maxRecDepth 100000 in
theorem jyX6_name : jY yX6_name cX6_name 1 (some .int) 0 := ⟨lw_in 298 rfl, wn_X6, by decide +kernel, by decide +kernel⟩
set_option maxRecDepth 100000 in
theorem jiX6_name : Cond.instanceMethod yX6_name ∈ lw_gt ∧ Cond.selects yX6_name.cls yX6_name yX6_name ∈ lw_gt := ⟨lw_in 296 rfl, lw_in 297 rfl⟩
set_option maxRecDepth 100000 in
theorem jyX6_end : jY yX6_end cX6_end 1 (some .int) 0 := ⟨lw_in 302 rfl, wn_X6, by decide +kernel, by decide +kernel⟩
set_option maxRecDepth 100000 in
theorem jiX6_end : Cond.instanceMethod yX6_end ∈ lw_gt ∧ Cond.selects yX6_end.cls yX6_end yX6_end ∈ lw_gt := ⟨lw_in 300 rfl, lw_in 301 rfl⟩
set_option maxRecDepth 100000 in
theorem jyX6_drop : jY yX6_drop cX6_drop 2 (some .int) 0 := ⟨lw_in 306 rfl, wn_X6, by decide +kernel, by decide +kernel⟩
set_option maxRecDepth 100000 in
theorem jiX6_drop : Cond.instanceMethod yX6_drop ∈ lw_gt ∧ Cond.selects yX6_drop.cls yX6_drop yX6_drop ∈ lw_gt := ⟨lw_in 304 rfl, lw_in 305 rfl⟩
set_option maxRecDepth 100000 in
theorem jyX0_clear : jY yX0_clear cX0_clear 1 none 0 := ⟨lw_in 310 rfl, wn_X0, by decide +kernel, by decide +kernel⟩
set_option maxRecDepth 100000 in
theorem jiX0_clear : Cond.instanceMethod yX0_clear ∈ lw_gt ∧ Cond.selects yX0_clear.cls yX0_clear yX0_clear ∈ lw_gt := ⟨lw_in 308 rfl, lw_in 309 rfl⟩
set_option maxRecDepth 100000 in
theorem jyX6_write : jY yX6_write cX6_write 3 (some .int) 1 := ⟨lw_in 315 rfl, wn_X6, by decide +kernel, by decide +kernel⟩
set_option maxRecDepth 100000 in
theorem jiX6_write : Cond.instanceMethod yX6_write ∈ lw_gt ∧ Cond.selects yX6_write.cls yX6_write yX6_write ∈ lw_gt := ⟨lw_in 313 rfl, lw_in 314 rfl⟩
set_option maxRecDepth 100000 in
theorem jyX5_encode : jY yX5_encode cX5_encode 5 (some .boolean) 3 := ⟨lw_in 320 rfl, wn_X5, by decide +kernel, by decide +kernel⟩
set_option maxRecDepth 100000 in
theorem jiX5_encode : Cond.instanceMethod yX5_encode ∈ lw_gt ∧ Cond.selects yX5_encode.cls yX5_encode yX5_encode ∈ lw_gt := ⟨lw_in 318 rfl, lw_in 319 rfl⟩
set_option maxRecDepth 100000 in
theorem jyX3_clear : jY yX3_clear cX3_clear 1 none 0 := ⟨lw_in 324 rfl, wn_X3, by decide +kernel, by decide +kernel⟩
set_option maxRecDepth 100000 in
theorem jiX3_clear : Cond.instanceMethod yX3_clear ∈ lw_gt ∧ Cond.selects yX3_clear.cls yX3_clear yX3_clear ∈ lw_gt := ⟨lw_in 322 rfl, lw_in 323 rfl⟩
set_option maxRecDepth 100000 in
theorem jyJ7_fill_53178 : jY yJ7_fill_53178 cJ7_fill_53178 4 none 2 := ⟨lw_in 327 rfl, wn_J7, by decide +kernel, by decide +kernel⟩
set_option maxRecDepth 100000 in
theorem jtJ7_fill_53178 : Cond.static yJ7_fill_53178 ∈ lw_gt := lw_in 326 rfl
set_option maxRecDepth 100000 in
theorem jyX2_isTooLong : jY yX2_isTooLong cX2_isTooLong 1 (some .boolean) 0 := ⟨lw_in 334 rfl, wn_X2, by decide +kernel, by decide +kernel⟩
set_option maxRecDepth 100000 in
theorem jiX2_isTooLong : Cond.instanceMethod yX2_isTooLong ∈ lw_gt ∧ Cond.selects yX2_isTooLong.cls yX2_isTooLong yX2_isTooLong ∈ lw_gt := ⟨lw_in 332 rfl, lw_in 333 rfl⟩
set_option maxRecDepth 100000 in
theorem jyX5_encodeItem : jY yX5_encodeItem cX5_encodeItem 2 none 1 := ⟨lw_in 338 rfl, wn_X5, by decide +kernel, by decide +kernel⟩
set_option maxRecDepth 100000 in
theorem jiX5_encodeItem : Cond.instanceMethod yX5_encodeItem ∈ lw_gt ∧ Cond.selects yX5_encodeItem.cls yX5_encodeItem yX5_encodeItem ∈ lw_gt := ⟨lw_in 337 rfl, lw_pr 2 rfl⟩
set_option maxRecDepth 100000 in
theorem jyX0_kindOf : jY yX0_kindOf cX0_kindOf 2 (some .int) 1 := ⟨lw_in 342 rfl, wn_X0, by decide +kernel, by decide +kernel⟩
set_option maxRecDepth 100000 in
theorem jiX0_kindOf : Cond.instanceMethod yX0_kindOf ∈ lw_gt ∧ Cond.selects yX0_kindOf.cls yX0_kindOf yX0_kindOf ∈ lw_gt := ⟨lw_in 340 rfl, lw_in 341 rfl⟩
set_option maxRecDepth 100000 in
theorem jyX0_has : jY yX0_has cX0_has 2 (some .boolean) 1 := ⟨lw_in 346 rfl, wn_X0, by decide +kernel, by decide +kernel⟩
set_option maxRecDepth 100000 in
theorem jiX0_has : Cond.instanceMethod yX0_has ∈ lw_gt ∧ Cond.selects yX0_has.cls yX0_has yX0_has ∈ lw_gt := ⟨lw_in 345 rfl, lw_pr 3 rfl⟩
set_option maxRecDepth 100000 in
theorem jyX5_encodeText : jY yX5_encodeText cX5_encodeText 6 none 1 := ⟨lw_in 350 rfl, wn_X5, by decide +kernel, by decide +kernel⟩
set_option maxRecDepth 100000 in
theorem jiX5_encodeText : Cond.instanceMethod yX5_encodeText ∈ lw_gt ∧ Cond.selects yX5_encodeText.cls yX5_encodeText yX5_encodeText ∈ lw_gt := ⟨lw_in 349 rfl, lw_pr 4 rfl⟩
set_option maxRecDepth 100000 in
theorem jyX0_lengthOf : jY yX0_lengthOf cX0_lengthOf 2 (some .int) 1 := ⟨lw_in 354 rfl, wn_X0, by decide +kernel, by decide +kernel⟩
set_option maxRecDepth 100000 in
theorem jiX0_lengthOf : Cond.instanceMethod yX0_lengthOf ∈ lw_gt ∧ Cond.selects yX0_lengthOf.cls yX0_lengthOf yX0_lengthOf ∈ lw_gt := ⟨lw_in 352 rfl, lw_in 353 rfl⟩
set_option maxRecDepth 100000 in
theorem jyX0_isAscii : jY yX0_isAscii cX0_isAscii 2 (some .boolean) 1 := ⟨lw_in 358 rfl, wn_X0, by decide +kernel, by decide +kernel⟩
set_option maxRecDepth 100000 in
theorem jiX0_isAscii : Cond.instanceMethod yX0_isAscii ∈ lw_gt ∧ Cond.selects yX0_isAscii.cls yX0_isAscii yX0_isAscii ∈ lw_gt := ⟨lw_in 356 rfl, lw_in 357 rfl⟩
set_option maxRecDepth 100000 in
theorem jyX4_isAscii : jY yX4_isAscii cX4_isAscii 5 (some .boolean) 3 := ⟨lw_in 361 rfl, wn_X4, by decide +kernel, by decide +kernel⟩
set_option maxRecDepth 100000 in
theorem jtX4_isAscii : Cond.static yX4_isAscii ∈ lw_gt := lw_in 360 rfl
set_option maxRecDepth 100000 in
theorem jyX3_takes : jY yX3_takes cX3_takes 1 (some .boolean) 1 := ⟨lw_in 364 rfl, wn_X3, by decide +kernel, by decide +kernel⟩
set_option maxRecDepth 100000 in
theorem jtX3_takes : Cond.static yX3_takes ∈ lw_gt := lw_in 363 rfl
set_option maxRecDepth 100000 in
theorem jyX3_placeOf : jY yX3_placeOf cX3_placeOf 5 (some .int) 2 := ⟨lw_in 368 rfl, wn_X3, by decide +kernel, by decide +kernel⟩
set_option maxRecDepth 100000 in
theorem jiX3_placeOf : Cond.instanceMethod yX3_placeOf ∈ lw_gt ∧ Cond.selects yX3_placeOf.cls yX3_placeOf yX3_placeOf ∈ lw_gt := ⟨lw_in 366 rfl, lw_in 367 rfl⟩
set_option maxRecDepth 100000 in
theorem jyX0_mixOf : jY yX0_mixOf cX0_mixOf 4 (some .int) 1 := ⟨lw_in 372 rfl, wn_X0, by decide +kernel, by decide +kernel⟩
set_option maxRecDepth 100000 in
theorem jiX0_mixOf : Cond.instanceMethod yX0_mixOf ∈ lw_gt ∧ Cond.selects yX0_mixOf.cls yX0_mixOf yX0_mixOf ∈ lw_gt := ⟨lw_in 370 rfl, lw_in 371 rfl⟩
set_option maxRecDepth 100000 in
theorem jyX3_bucketOf : jY yX3_bucketOf cX3_bucketOf 1 (some .int) 1 := ⟨lw_in 375 rfl, wn_X3, by decide +kernel, by decide +kernel⟩
set_option maxRecDepth 100000 in
theorem jtX3_bucketOf : Cond.static yX3_bucketOf ∈ lw_gt := lw_in 374 rfl
set_option maxRecDepth 100000 in
theorem jyX0_haveSameText : jY yX0_haveSameText cX0_haveSameText 4 (some .boolean) 2 := ⟨lw_in 379 rfl, wn_X0, by decide +kernel, by decide +kernel⟩
set_option maxRecDepth 100000 in
theorem jiX0_haveSameText : Cond.instanceMethod yX0_haveSameText ∈ lw_gt ∧ Cond.selects yX0_haveSameText.cls yX0_haveSameText yX0_haveSameText ∈ lw_gt := ⟨lw_in 377 rfl, lw_in 378 rfl⟩
set_option maxRecDepth 100000 in
theorem jyX3_put : jY yX3_put cX3_put 4 none 2 := ⟨lw_in 383 rfl, wn_X3, by decide +kernel, by decide +kernel⟩
set_option maxRecDepth 100000 in
theorem jiX3_put : Cond.instanceMethod yX3_put ∈ lw_gt ∧ Cond.selects yX3_put.cls yX3_put yX3_put ∈ lw_gt := ⟨lw_in 381 rfl, lw_in 382 rfl⟩
set_option maxRecDepth 100000 in
theorem jyX3_canBeTold : jY yX3_canBeTold cX3_canBeTold 1 (some .boolean) 1 := ⟨lw_in 387 rfl, wn_X3, by decide +kernel, by decide +kernel⟩
set_option maxRecDepth 100000 in
theorem jtX3_canBeTold : Cond.static yX3_canBeTold ∈ lw_gt := lw_in 386 rfl
set_option maxRecDepth 100000 in
theorem jyX5_encodePlace : jY yX5_encodePlace cX5_encodePlace 5 none 4 := ⟨lw_in 391 rfl, wn_X5, by decide +kernel, by decide +kernel⟩
set_option maxRecDepth 100000 in
theorem jiX5_encodePlace : Cond.instanceMethod yX5_encodePlace ∈ lw_gt ∧ Cond.selects yX5_encodePlace.cls yX5_encodePlace yX5_encodePlace ∈ lw_gt := ⟨lw_in 390 rfl, lw_pr 5 rfl⟩
set_option maxRecDepth 100000 in
theorem jyX5_encodeLong : jY yX5_encodeLong cX5_encodeLong 3 none 2 := ⟨lw_in 395 rfl, wn_X5, by decide +kernel, by decide +kernel⟩
set_option maxRecDepth 100000 in
theorem jiX5_encodeLong : Cond.instanceMethod yX5_encodeLong ∈ lw_gt ∧ Cond.selects yX5_encodeLong.cls yX5_encodeLong yX5_encodeLong ∈ lw_gt := ⟨lw_in 394 rfl, lw_pr 6 rfl⟩
set_option maxRecDepth 100000 in
theorem jyX0_copyText : jY yX0_copyText cX0_copyText 4 none 2 := ⟨lw_in 399 rfl, wn_X0, by decide +kernel, by decide +kernel⟩
set_option maxRecDepth 100000 in
theorem jiX0_copyText : Cond.instanceMethod yX0_copyText ∈ lw_gt ∧ Cond.selects yX0_copyText.cls yX0_copyText yX0_copyText ∈ lw_gt := ⟨lw_in 397 rfl, lw_in 398 rfl⟩
set_option maxRecDepth 100000 in
theorem jyX5_encodeShort : jY yX5_encodeShort cX5_encodeShort 3 none 2 := ⟨lw_in 403 rfl, wn_X5, by decide +kernel, by decide +kernel⟩
set_option maxRecDepth 100000 in
theorem jiX5_encodeShort : Cond.instanceMethod yX5_encodeShort ∈ lw_gt ∧ Cond.selects yX5_encodeShort.cls yX5_encodeShort yX5_encodeShort ∈ lw_gt := ⟨lw_in 402 rfl, lw_pr 7 rfl⟩
set_option maxRecDepth 100000 in
theorem jyX5_encodeBytes : jY yX5_encodeBytes cX5_encodeBytes 3 none 1 := ⟨lw_in 407 rfl, wn_X5, by decide +kernel, by decide +kernel⟩
set_option maxRecDepth 100000 in
theorem jiX5_encodeBytes : Cond.instanceMethod yX5_encodeBytes ∈ lw_gt ∧ Cond.selects yX5_encodeBytes.cls yX5_encodeBytes yX5_encodeBytes ∈ lw_gt := ⟨lw_in 406 rfl, lw_pr 8 rfl⟩
set_option maxRecDepth 100000 in
theorem jyX5_encodeCount : jY yX5_encodeCount cX5_encodeCount 6 none 1 := ⟨lw_in 411 rfl, wn_X5, by decide +kernel, by decide +kernel⟩
set_option maxRecDepth 100000 in
theorem jiX5_encodeCount : Cond.instanceMethod yX5_encodeCount ∈ lw_gt ∧ Cond.selects yX5_encodeCount.cls yX5_encodeCount yX5_encodeCount ∈ lw_gt := ⟨lw_in 410 rfl, lw_pr 9 rfl⟩
set_option maxRecDepth 100000 in
theorem jyX5_pushBitsOf : jY yX5_pushBitsOf cX5_pushBitsOf 5 none 1 := ⟨lw_in 415 rfl, wn_X5, by decide +kernel, by decide +kernel⟩
set_option maxRecDepth 100000 in
theorem jiX5_pushBitsOf : Cond.instanceMethod yX5_pushBitsOf ∈ lw_gt ∧ Cond.selects yX5_pushBitsOf.cls yX5_pushBitsOf yX5_pushBitsOf ∈ lw_gt := ⟨lw_in 414 rfl, lw_pr 10 rfl⟩
set_option maxRecDepth 100000 in
theorem jyX0_textByte : jY yX0_textByte cX0_textByte 3 (some .int) 2 := ⟨lw_in 419 rfl, wn_X0, by decide +kernel, by decide +kernel⟩
set_option maxRecDepth 100000 in
theorem jiX0_textByte : Cond.instanceMethod yX0_textByte ∈ lw_gt ∧ Cond.selects yX0_textByte.cls yX0_textByte yX0_textByte ∈ lw_gt := ⟨lw_in 417 rfl, lw_in 418 rfl⟩
set_option maxRecDepth 100000 in
theorem jyX5_encodeOpening : jY yX5_encodeOpening cX5_encodeOpening 4 none 2 := ⟨lw_in 423 rfl, wn_X5, by decide +kernel, by decide +kernel⟩
set_option maxRecDepth 100000 in
theorem jiX5_encodeOpening : Cond.instanceMethod yX5_encodeOpening ∈ lw_gt ∧ Cond.selects yX5_encodeOpening.cls yX5_encodeOpening yX5_encodeOpening ∈ lw_gt := ⟨lw_in 422 rfl, lw_pr 11 rfl⟩
set_option maxRecDepth 100000 in
theorem jyX0_depthOf : jY yX0_depthOf cX0_depthOf 2 (some .int) 1 := ⟨lw_in 427 rfl, wn_X0, by decide +kernel, by decide +kernel⟩
set_option maxRecDepth 100000 in
theorem jiX0_depthOf : Cond.instanceMethod yX0_depthOf ∈ lw_gt ∧ Cond.selects yX0_depthOf.cls yX0_depthOf yX0_depthOf ∈ lw_gt := ⟨lw_in 425 rfl, lw_in 426 rfl⟩
set_option maxRecDepth 100000 in
theorem jyX0_numberOf : jY yX0_numberOf cX0_numberOf 2 (some .long) 1 := ⟨lw_in 431 rfl, wn_X0, by decide +kernel, by decide +kernel⟩
set_option maxRecDepth 100000 in
theorem jiX0_numberOf : Cond.instanceMethod yX0_numberOf ∈ lw_gt ∧ Cond.selects yX0_numberOf.cls yX0_numberOf yX0_numberOf ∈ lw_gt := ⟨lw_in 429 rfl, lw_in 430 rfl⟩
set_option maxRecDepth 100000 in
theorem jyX5_encodeInteger : jY yX5_encodeInteger cX5_encodeInteger 5 none 1 := ⟨lw_in 435 rfl, wn_X5, by decide +kernel, by decide +kernel⟩
set_option maxRecDepth 100000 in
theorem jiX5_encodeInteger : Cond.instanceMethod yX5_encodeInteger ∈ lw_gt ∧ Cond.selects yX5_encodeInteger.cls yX5_encodeInteger yX5_encodeInteger ∈ lw_gt := ⟨lw_in 434 rfl, lw_pr 12 rfl⟩
set_option maxRecDepth 100000 in
theorem jyX5_encodeReal : jY yX5_encodeReal cX5_encodeReal 6 none 3 := ⟨lw_in 441 rfl, wn_X5, by decide +kernel, by decide +kernel⟩
set_option maxRecDepth 100000 in
theorem jiX5_encodeReal : Cond.instanceMethod yX5_encodeReal ∈ lw_gt ∧ Cond.selects yX5_encodeReal.cls yX5_encodeReal yX5_encodeReal ∈ lw_gt := ⟨lw_in 440 rfl, lw_pr 13 rfl⟩
set_option maxRecDepth 100000 in
theorem jyX5_encodeName : jY yX5_encodeName cX5_encodeName 6 none 1 := ⟨lw_in 445 rfl, wn_X5, by decide +kernel, by decide +kernel⟩
set_option maxRecDepth 100000 in
theorem jiX5_encodeName : Cond.instanceMethod yX5_encodeName ∈ lw_gt ∧ Cond.selects yX5_encodeName.cls yX5_encodeName yX5_encodeName ∈ lw_gt := ⟨lw_in 444 rfl, lw_pr 14 rfl⟩
set_option maxRecDepth 100000 in
theorem jyX5_encodeEnd : jY yX5_encodeEnd cX5_encodeEnd 4 none 1 := ⟨lw_in 449 rfl, wn_X5, by decide +kernel, by decide +kernel⟩
set_option maxRecDepth 100000 in
theorem jiX5_encodeEnd : Cond.instanceMethod yX5_encodeEnd ∈ lw_gt ∧ Cond.selects yX5_encodeEnd.cls yX5_encodeEnd yX5_encodeEnd ∈ lw_gt := ⟨lw_in 448 rfl, lw_pr 15 rfl⟩
set_option maxRecDepth 100000 in
theorem jyX6_written : jY yX6_written cX6_written 2 (some .int) 1 := ⟨lw_in 453 rfl, wn_X6, by decide +kernel, by decide +kernel⟩
set_option maxRecDepth 100000 in
theorem jiX6_written : Cond.instanceMethod yX6_written ∈ lw_gt ∧ Cond.selects yX6_written.cls yX6_written yX6_written ∈ lw_gt := ⟨lw_in 451 rfl, lw_in 452 rfl⟩
set_option maxRecDepth 100000 in
theorem jyX6_load : jY yX6_load cX6_load 4 (some .int) 2 := ⟨lw_in 458 rfl, wn_X6, by decide +kernel, by decide +kernel⟩
set_option maxRecDepth 100000 in
theorem jiX6_load : Cond.instanceMethod yX6_load ∈ lw_gt ∧ Cond.selects yX6_load.cls yX6_load yX6_load ∈ lw_gt := ⟨lw_in 456 rfl, lw_in 457 rfl⟩
set_option maxRecDepth 100000 in
theorem jyX6_loop : jY yX6_loop cX6_loop 1 (some .int) 0 := ⟨lw_in 462 rfl, wn_X6, by decide +kernel, by decide +kernel⟩
set_option maxRecDepth 100000 in
theorem jiX6_loop : Cond.instanceMethod yX6_loop ∈ lw_gt ∧ Cond.selects yX6_loop.cls yX6_loop yX6_loop ∈ lw_gt := ⟨lw_in 460 rfl, lw_in 461 rfl⟩
set_option maxRecDepth 100000 in
theorem jyX2_copyFrom : jY yX2_copyFrom cX2_copyFrom 3 none 1 := ⟨lw_in 466 rfl, wn_X2, by decide +kernel, by decide +kernel⟩
set_option maxRecDepth 100000 in
theorem jiX2_copyFrom : Cond.instanceMethod yX2_copyFrom ∈ lw_gt ∧ Cond.selects yX2_copyFrom.cls yX2_copyFrom yX2_copyFrom ∈ lw_gt := ⟨lw_in 464 rfl, lw_in 465 rfl⟩
set_option maxRecDepth 100000 in
theorem jyX6_read : jY yX6_read cX6_read 3 (some .int) 0 := ⟨lw_in 472 rfl, wn_X6, by decide +kernel, by decide +kernel⟩
set_option maxRecDepth 100000 in
theorem jiX6_read : Cond.instanceMethod yX6_read ∈ lw_gt ∧ Cond.selects yX6_read.cls yX6_read yX6_read ∈ lw_gt := ⟨lw_in 470 rfl, lw_in 471 rfl⟩
set_option maxRecDepth 100000 in
theorem jyX1_decode : jY yX1_decode cX1_decode 5 (some .int) 2 := ⟨lw_in 476 rfl, wn_X1, by decide +kernel, by decide +kernel⟩
set_option maxRecDepth 100000 in
theorem jiX1_decode : Cond.instanceMethod yX1_decode ∈ lw_gt ∧ Cond.selects yX1_decode.cls yX1_decode yX1_decode ∈ lw_gt := ⟨lw_in 474 rfl, lw_in 475 rfl⟩
set_option maxRecDepth 100000 in
theorem jyX1_scanHead : jY yX1_scanHead cX1_scanHead 2 none 0 := ⟨lw_in 482 rfl, wn_X1, by decide +kernel, by decide +kernel⟩
set_option maxRecDepth 100000 in
theorem jiX1_scanHead : Cond.instanceMethod yX1_scanHead ∈ lw_gt ∧ Cond.selects yX1_scanHead.cls yX1_scanHead yX1_scanHead ∈ lw_gt := ⟨lw_in 481 rfl, lw_pr 16 rfl⟩
set_option maxRecDepth 100000 in
theorem jyX1_isHeadByte : jY yX1_isHeadByte cX1_isHeadByte 2 (some .boolean) 2 := ⟨lw_in 486 rfl, wn_X1, by decide +kernel, by decide +kernel⟩
set_option maxRecDepth 100000 in
theorem jtX1_isHeadByte : Cond.static yX1_isHeadByte ∈ lw_gt := lw_in 485 rfl
set_option maxRecDepth 100000 in
theorem jyX1_fail : jY yX1_fail cX1_fail 3 none 2 := ⟨lw_in 490 rfl, wn_X1, by decide +kernel, by decide +kernel⟩
set_option maxRecDepth 100000 in
theorem jiX1_fail : Cond.instanceMethod yX1_fail ∈ lw_gt ∧ Cond.selects yX1_fail.cls yX1_fail yX1_fail ∈ lw_gt := ⟨lw_in 489 rfl, lw_pr 17 rfl⟩
set_option maxRecDepth 100000 in
theorem jyX1_beginItem : jY yX1_beginItem cX1_beginItem 1 (some .int) 0 := ⟨lw_in 495 rfl, wn_X1, by decide +kernel, by decide +kernel⟩
set_option maxRecDepth 100000 in
theorem jiX1_beginItem : Cond.instanceMethod yX1_beginItem ∈ lw_gt ∧ Cond.selects yX1_beginItem.cls yX1_beginItem yX1_beginItem ∈ lw_gt := ⟨lw_in 494 rfl, lw_pr 18 rfl⟩
set_option maxRecDepth 100000 in
theorem jyX1_take : jY yX1_take cX1_take 2 (some .int) 0 := ⟨lw_in 499 rfl, wn_X1, by decide +kernel, by decide +kernel⟩
set_option maxRecDepth 100000 in
theorem jiX1_take : Cond.instanceMethod yX1_take ∈ lw_gt ∧ Cond.selects yX1_take.cls yX1_take yX1_take ∈ lw_gt := ⟨lw_in 498 rfl, lw_pr 19 rfl⟩
set_option maxRecDepth 100000 in
theorem jyX1_scanName : jY yX1_scanName cX1_scanName 2 none 1 := ⟨lw_in 504 rfl, wn_X1, by decide +kernel, by decide +kernel⟩
set_option maxRecDepth 100000 in
theorem jiX1_scanName : Cond.instanceMethod yX1_scanName ∈ lw_gt ∧ Cond.selects yX1_scanName.cls yX1_scanName yX1_scanName ∈ lw_gt := ⟨lw_in 503 rfl, lw_pr 20 rfl⟩
set_option maxRecDepth 100000 in
theorem jyX1_scanShort : jY yX1_scanShort cX1_scanShort 3 none 2 := ⟨lw_in 508 rfl, wn_X1, by decide +kernel, by decide +kernel⟩
set_option maxRecDepth 100000 in
theorem jiX1_scanShort : Cond.instanceMethod yX1_scanShort ∈ lw_gt ∧ Cond.selects yX1_scanShort.cls yX1_scanShort yX1_scanShort ∈ lw_gt := ⟨lw_in 507 rfl, lw_pr 21 rfl⟩
set_option maxRecDepth 100000 in
theorem jyX1_skip : jY yX1_skip cX1_skip 3 none 1 := ⟨lw_in 512 rfl, wn_X1, by decide +kernel, by decide +kernel⟩
set_option maxRecDepth 100000 in
theorem jiX1_skip : Cond.instanceMethod yX1_skip ∈ lw_gt ∧ Cond.selects yX1_skip.cls yX1_skip yX1_skip ∈ lw_gt := ⟨lw_in 511 rfl, lw_pr 22 rfl⟩
set_option maxRecDepth 100000 in
theorem jyX1_scanFarPlace : jY yX1_scanFarPlace cX1_scanFarPlace 2 none 1 := ⟨lw_in 517 rfl, wn_X1, by decide +kernel, by decide +kernel⟩
set_option maxRecDepth 100000 in
theorem jiX1_scanFarPlace : Cond.instanceMethod yX1_scanFarPlace ∈ lw_gt ∧ Cond.selects yX1_scanFarPlace.cls yX1_scanFarPlace yX1_scanFarPlace ∈ lw_gt := ⟨lw_in 516 rfl, lw_pr 23 rfl⟩
set_option maxRecDepth 100000 in
theorem jyX1_isShared : jY yX1_isShared cX1_isShared 1 (some .boolean) 0 := ⟨lw_in 521 rfl, wn_X1, by decide +kernel, by decide +kernel⟩
set_option maxRecDepth 100000 in
theorem jiX1_isShared : Cond.instanceMethod yX1_isShared ∈ lw_gt ∧ Cond.selects yX1_isShared.cls yX1_isShared yX1_isShared ∈ lw_gt := ⟨lw_in 520 rfl, lw_pr 24 rfl⟩
set_option maxRecDepth 100000 in
theorem jyX1_refuseByte : jY yX1_refuseByte cX1_refuseByte 1 none 0 := ⟨lw_in 525 rfl, wn_X1, by decide +kernel, by decide +kernel⟩
set_option maxRecDepth 100000 in
theorem jiX1_refuseByte : Cond.instanceMethod yX1_refuseByte ∈ lw_gt ∧ Cond.selects yX1_refuseByte.cls yX1_refuseByte yX1_refuseByte ∈ lw_gt := ⟨lw_in 524 rfl, lw_pr 25 rfl⟩
set_option maxRecDepth 100000 in
theorem jyX1_scanLong : jY yX1_scanLong cX1_scanLong 2 none 1 := ⟨lw_in 529 rfl, wn_X1, by decide +kernel, by decide +kernel⟩
set_option maxRecDepth 100000 in
theorem jiX1_scanLong : Cond.instanceMethod yX1_scanLong ∈ lw_gt ∧ Cond.selects yX1_scanLong.cls yX1_scanLong yX1_scanLong ∈ lw_gt := ⟨lw_in 528 rfl, lw_pr 26 rfl⟩
set_option maxRecDepth 100000 in
theorem jyX1_scanNearPlace : jY yX1_scanNearPlace cX1_scanNearPlace 2 none 1 := ⟨lw_in 533 rfl, wn_X1, by decide +kernel, by decide +kernel⟩
set_option maxRecDepth 100000 in
theorem jiX1_scanNearPlace : Cond.instanceMethod yX1_scanNearPlace ∈ lw_gt ∧ Cond.selects yX1_scanNearPlace.cls yX1_scanNearPlace yX1_scanNearPlace ∈ lw_gt := ⟨lw_in 532 rfl, lw_pr 27 rfl⟩
set_option maxRecDepth 100000 in
theorem jyX1_scanValue : jY yX1_scanValue cX1_scanValue 2 none 1 := ⟨lw_in 537 rfl, wn_X1, by decide +kernel, by decide +kernel⟩
set_option maxRecDepth 100000 in
theorem jiX1_scanValue : Cond.instanceMethod yX1_scanValue ∈ lw_gt ∧ Cond.selects yX1_scanValue.cls yX1_scanValue yX1_scanValue ∈ lw_gt := ⟨lw_in 536 rfl, lw_pr 28 rfl⟩
set_option maxRecDepth 100000 in
theorem jyX1_scanInteger : jY yX1_scanInteger cX1_scanInteger 3 none 2 := ⟨lw_in 541 rfl, wn_X1, by decide +kernel, by decide +kernel⟩
set_option maxRecDepth 100000 in
theorem jiX1_scanInteger : Cond.instanceMethod yX1_scanInteger ∈ lw_gt ∧ Cond.selects yX1_scanInteger.cls yX1_scanInteger yX1_scanInteger ∈ lw_gt := ⟨lw_in 540 rfl, lw_pr 29 rfl⟩
set_option maxRecDepth 100000 in
theorem jyX1_takeCount : jY yX1_takeCount cX1_takeCount 7 (some .long) 2 := ⟨lw_in 545 rfl, wn_X1, by decide +kernel, by decide +kernel⟩
set_option maxRecDepth 100000 in
theorem jiX1_takeCount : Cond.instanceMethod yX1_takeCount ∈ lw_gt ∧ Cond.selects yX1_takeCount.cls yX1_takeCount yX1_takeCount ∈ lw_gt := ⟨lw_in 544 rfl, lw_pr 30 rfl⟩
set_option maxRecDepth 100000 in
theorem jyX1_append : jY yX1_append cX1_append 6 (some .long) 4 := ⟨lw_in 549 rfl, wn_X1, by decide +kernel, by decide +kernel⟩
set_option maxRecDepth 100000 in
theorem jiX1_append : Cond.instanceMethod yX1_append ∈ lw_gt ∧ Cond.selects yX1_append.cls yX1_append yX1_append ∈ lw_gt := ⟨lw_in 548 rfl, lw_pr 31 rfl⟩
set_option maxRecDepth 100000 in
theorem jyX1_fromZigzag : jY yX1_fromZigzag cX1_fromZigzag 2 (some .long) 1 := ⟨lw_in 552 rfl, wn_X1, by decide +kernel, by decide +kernel⟩
set_option maxRecDepth 100000 in
theorem jtX1_fromZigzag : Cond.static yX1_fromZigzag ∈ lw_gt := lw_in 551 rfl
set_option maxRecDepth 100000 in
theorem jyX1_scanReal : jY yX1_scanReal cX1_scanReal 5 none 3 := ⟨lw_in 556 rfl, wn_X1, by decide +kernel, by decide +kernel⟩
set_option maxRecDepth 100000 in
theorem jiX1_scanReal : Cond.instanceMethod yX1_scanReal ∈ lw_gt ∧ Cond.selects yX1_scanReal.cls yX1_scanReal yX1_scanReal ∈ lw_gt := ⟨lw_in 555 rfl, lw_pr 32 rfl⟩
set_option maxRecDepth 100000 in
theorem jyX1_takeSeven : jY yX1_takeSeven cX1_takeSeven 2 (some .int) 0 := ⟨lw_in 560 rfl, wn_X1, by decide +kernel, by decide +kernel⟩
set_option maxRecDepth 100000 in
theorem jiX1_takeSeven : Cond.instanceMethod yX1_takeSeven ∈ lw_gt ∧ Cond.selects yX1_takeSeven.cls yX1_takeSeven yX1_takeSeven ∈ lw_gt := ⟨lw_in 559 rfl, lw_pr 33 rfl⟩
set_option maxRecDepth 100000 in
theorem jyX1_scanBits : jY yX1_scanBits cX1_scanBits 8 none 0 := ⟨lw_in 564 rfl, wn_X1, by decide +kernel, by decide +kernel⟩
set_option maxRecDepth 100000 in
theorem jiX1_scanBits : Cond.instanceMethod yX1_scanBits ∈ lw_gt ∧ Cond.selects yX1_scanBits.cls yX1_scanBits yX1_scanBits ∈ lw_gt := ⟨lw_in 563 rfl, lw_pr 34 rfl⟩
set_option maxRecDepth 100000 in
theorem jyX1_sevensOf : jY yX1_sevensOf cX1_sevensOf 2 (some .long) 1 := ⟨lw_in 567 rfl, wn_X1, by decide +kernel, by decide +kernel⟩
set_option maxRecDepth 100000 in
theorem jtX1_sevensOf : Cond.static yX1_sevensOf ∈ lw_gt := lw_in 566 rfl
set_option maxRecDepth 100000 in
theorem wmin_c : Cond.code Lib.MathLoose.min_long.x Lib.MathLoose.min_long.code 4 (some .long) ∈ lw_gt := lw_in 573 rfl
set_option maxRecDepth 100000 in
theorem wmin_s : Cond.static Lib.MathLoose.min_long.x ∈ lw_gt := lw_in 572 rfl
set_option maxRecDepth 100000 in
theorem wmin_i : Cond.initialized "java/lang/Math" ∈ lw_gt := wn_J9
set_option maxRecDepth 100000 in
theorem jyX1_bitsInLast : jY yX1_bitsInLast cX1_bitsInLast 1 (some .int) 1 := ⟨lw_in 576 rfl, wn_X1, by decide +kernel, by decide +kernel⟩
set_option maxRecDepth 100000 in
theorem jtX1_bitsInLast : Cond.static yX1_bitsInLast ∈ lw_gt := lw_in 575 rfl
set_option maxRecDepth 100000 in
theorem jyX1_scanRaw : jY yX1_scanRaw cX1_scanRaw 3 none 0 := ⟨lw_in 580 rfl, wn_X1, by decide +kernel, by decide +kernel⟩
set_option maxRecDepth 100000 in
theorem jiX1_scanRaw : Cond.instanceMethod yX1_scanRaw ∈ lw_gt ∧ Cond.selects yX1_scanRaw.cls yX1_scanRaw yX1_scanRaw ∈ lw_gt := ⟨lw_in 579 rfl, lw_pr 35 rfl⟩
set_option maxRecDepth 100000 in
theorem jyX1_scanArrayEnd : jY yX1_scanArrayEnd cX1_scanArrayEnd 1 none 0 := ⟨lw_in 584 rfl, wn_X1, by decide +kernel, by decide +kernel⟩
set_option maxRecDepth 100000 in
theorem jiX1_scanArrayEnd : Cond.instanceMethod yX1_scanArrayEnd ∈ lw_gt ∧ Cond.selects yX1_scanArrayEnd.cls yX1_scanArrayEnd yX1_scanArrayEnd ∈ lw_gt := ⟨lw_in 583 rfl, lw_pr 36 rfl⟩
set_option maxRecDepth 100000 in
theorem jyX1_scanBrief : jY yX1_scanBrief cX1_scanBrief 2 none 1 := ⟨lw_in 589 rfl, wn_X1, by decide +kernel, by decide +kernel⟩
set_option maxRecDepth 100000 in
theorem jiX1_scanBrief : Cond.instanceMethod yX1_scanBrief ∈ lw_gt ∧ Cond.selects yX1_scanBrief.cls yX1_scanBrief yX1_scanBrief ∈ lw_gt := ⟨lw_in 588 rfl, lw_pr 37 rfl⟩
set_option maxRecDepth 100000 in
theorem jyX1_judgeItem : jY yX1_judgeItem cX1_judgeItem 1 none 0 := ⟨lw_in 593 rfl, wn_X1, by decide +kernel, by decide +kernel⟩
set_option maxRecDepth 100000 in
theorem jiX1_judgeItem : Cond.instanceMethod yX1_judgeItem ∈ lw_gt ∧ Cond.selects yX1_judgeItem.cls yX1_judgeItem yX1_judgeItem ∈ lw_gt := ⟨lw_in 592 rfl, lw_pr 38 rfl⟩
set_option maxRecDepth 100000 in
theorem jyX1_table : jY yX1_table cX1_table 1 (some (.object "GrinCoder$Table")) 0 := ⟨lw_in 599 rfl, wn_X1, by decide +kernel, by decide +kernel⟩
set_option maxRecDepth 100000 in
theorem jiX1_table : Cond.instanceMethod yX1_table ∈ lw_gt ∧ Cond.selects yX1_table.cls yX1_table yX1_table ∈ lw_gt := ⟨lw_in 598 rfl, lw_pr 39 rfl⟩
set_option maxRecDepth 100000 in
theorem jyX3_itemAt : jY yX3_itemAt cX3_itemAt 2 (some .int) 1 := ⟨lw_in 603 rfl, wn_X3, by decide +kernel, by decide +kernel⟩
set_option maxRecDepth 100000 in
theorem jiX3_itemAt : Cond.instanceMethod yX3_itemAt ∈ lw_gt ∧ Cond.selects yX3_itemAt.cls yX3_itemAt yX3_itemAt ∈ lw_gt := ⟨lw_in 601 rfl, lw_in 602 rfl⟩
set_option maxRecDepth 100000 in
theorem jyX1_keepItem : jY yX1_keepItem cX1_keepItem 1 none 0 := ⟨lw_in 609 rfl, wn_X1, by decide +kernel, by decide +kernel⟩
set_option maxRecDepth 100000 in
theorem jiX1_keepItem : Cond.instanceMethod yX1_keepItem ∈ lw_gt ∧ Cond.selects yX1_keepItem.cls yX1_keepItem yX1_keepItem ∈ lw_gt := ⟨lw_in 608 rfl, lw_pr 40 rfl⟩
set_option maxRecDepth 100000 in
theorem jyX1_keepText : jY yX1_keepText cX1_keepText 1 none 0 := ⟨lw_in 614 rfl, wn_X1, by decide +kernel, by decide +kernel⟩
set_option maxRecDepth 100000 in
theorem jiX1_keepText : Cond.instanceMethod yX1_keepText ∈ lw_gt ∧ Cond.selects yX1_keepText.cls yX1_keepText yX1_keepText ∈ lw_gt := ⟨lw_in 613 rfl, lw_pr 41 rfl⟩
set_option maxRecDepth 100000 in
theorem jyX0_extendByTextOf : jY yX0_extendByTextOf cX0_extendByTextOf 2 none 1 := ⟨lw_in 622 rfl, wn_X0, by decide +kernel, by decide +kernel⟩
set_option maxRecDepth 100000 in
theorem jiX0_extendByTextOf : Cond.instanceMethod yX0_extendByTextOf ∈ lw_gt ∧ Cond.selects yX0_extendByTextOf.cls yX0_extendByTextOf yX0_extendByTextOf ∈ lw_gt := ⟨lw_in 620 rfl, lw_in 621 rfl⟩
set_option maxRecDepth 100000 in
theorem jyX1_keepBits : jY yX1_keepBits cX1_keepBits 5 none 0 := ⟨lw_in 627 rfl, wn_X1, by decide +kernel, by decide +kernel⟩
set_option maxRecDepth 100000 in
theorem jiX1_keepBits : Cond.instanceMethod yX1_keepBits ∈ lw_gt ∧ Cond.selects yX1_keepBits.cls yX1_keepBits yX1_keepBits ∈ lw_gt := ⟨lw_in 626 rfl, lw_pr 42 rfl⟩
set_option maxRecDepth 100000 in
theorem jyX6_place : jY yX6_place cX6_place 1 (some .int) 0 := ⟨lw_in 632 rfl, wn_X6, by decide +kernel, by decide +kernel⟩
set_option maxRecDepth 100000 in
theorem jiX6_place : Cond.instanceMethod yX6_place ∈ lw_gt ∧ Cond.selects yX6_place.cls yX6_place yX6_place ∈ lw_gt := ⟨lw_in 630 rfl, lw_in 631 rfl⟩
set_option maxRecDepth 100000 in
theorem jyX1_faultPlace : jY yX1_faultPlace cX1_faultPlace 1 (some .int) 0 := ⟨lw_in 636 rfl, wn_X1, by decide +kernel, by decide +kernel⟩
set_option maxRecDepth 100000 in
theorem jiX1_faultPlace : Cond.instanceMethod yX1_faultPlace ∈ lw_gt ∧ Cond.selects yX1_faultPlace.cls yX1_faultPlace yX1_faultPlace ∈ lw_gt := ⟨lw_in 634 rfl, lw_in 635 rfl⟩
set_option maxRecDepth 100000 in
theorem jyX6_item : jY yX6_item cX6_item 3 (some .int) 2 := ⟨lw_in 640 rfl, wn_X6, by decide +kernel, by decide +kernel⟩
set_option maxRecDepth 100000 in
theorem jiX6_item : Cond.instanceMethod yX6_item ∈ lw_gt ∧ Cond.selects yX6_item.cls yX6_item yX6_item ∈ lw_gt := ⟨lw_in 638 rfl, lw_in 639 rfl⟩
set_option maxRecDepth 100000 in
theorem jyX6_number : jY yX6_number cX6_number 2 (some .long) 1 := ⟨lw_in 647 rfl, wn_X6, by decide +kernel, by decide +kernel⟩
set_option maxRecDepth 100000 in
theorem jiX6_number : Cond.instanceMethod yX6_number ∈ lw_gt ∧ Cond.selects yX6_number.cls yX6_number yX6_number ∈ lw_gt := ⟨lw_in 645 rfl, lw_in 646 rfl⟩
set_option maxRecDepth 100000 in
theorem jyX6_byteOf : jY yX6_byteOf cX6_byteOf 3 (some .int) 2 := ⟨lw_in 652 rfl, wn_X6, by decide +kernel, by decide +kernel⟩
set_option maxRecDepth 100000 in
theorem jiX6_byteOf : Cond.instanceMethod yX6_byteOf ∈ lw_gt ∧ Cond.selects yX6_byteOf.cls yX6_byteOf yX6_byteOf ∈ lw_gt := ⟨lw_in 650 rfl, lw_in 651 rfl⟩
set_option maxRecDepth 100000 in
theorem jyX6_count : jY yX6_count cX6_count 2 (some .int) 1 := ⟨lw_in 657 rfl, wn_X6, by decide +kernel, by decide +kernel⟩
set_option maxRecDepth 100000 in
theorem jiX6_count : Cond.instanceMethod yX6_count ∈ lw_gt ∧ Cond.selects yX6_count.cls yX6_count yX6_count ∈ lw_gt := ⟨lw_in 655 rfl, lw_in 656 rfl⟩
set_option maxRecDepth 100000 in
theorem jyX0_textBytes : jY yX0_textBytes cX0_textBytes 1 (some .int) 0 := ⟨lw_in 661 rfl, wn_X0, by decide +kernel, by decide +kernel⟩
set_option maxRecDepth 100000 in
theorem jiX0_textBytes : Cond.instanceMethod yX0_textBytes ∈ lw_gt ∧ Cond.selects yX0_textBytes.cls yX0_textBytes yX0_textBytes ∈ lw_gt := ⟨lw_in 659 rfl, lw_in 660 rfl⟩
set_option maxRecDepth 100000 in
theorem jyX6_check : jY yX6_check cX6_check 1 (some .int) 0 := ⟨lw_in 665 rfl, wn_X6, by decide +kernel, by decide +kernel⟩
set_option maxRecDepth 100000 in
theorem jiX6_check : Cond.instanceMethod yX6_check ∈ lw_gt ∧ Cond.selects yX6_check.cls yX6_check yX6_check ∈ lw_gt := ⟨lw_in 663 rfl, lw_in 664 rfl⟩
set_option maxRecDepth 100000 in
theorem jyX0_isSound : jY yX0_isSound cX0_isSound 3 (some .boolean) 0 := ⟨lw_in 669 rfl, wn_X0, by decide +kernel, by decide +kernel⟩
set_option maxRecDepth 100000 in
theorem jiX0_isSound : Cond.instanceMethod yX0_isSound ∈ lw_gt ∧ Cond.selects yX0_isSound.cls yX0_isSound yX0_isSound ∈ lw_gt := ⟨lw_in 667 rfl, lw_in 668 rfl⟩
set_option maxRecDepth 100000 in
theorem jyX7_init : jY yX7_init cX7_init 1 none 0 := ⟨lw_in 676 rfl, wn_X7, by decide +kernel, by decide +kernel⟩
set_option maxRecDepth 100000 in
theorem jiX7_init : yX7_init.name = "<init>" ∧ Cond.instanceMethod yX7_init ∈ lw_gt := ⟨rfl, lw_in 675 rfl⟩
set_option maxRecDepth 100000 in
theorem jyX7_type : jY yX7_type cX7_type 5 (some .int) 2 := ⟨lw_in 767 rfl, wn_X7, by decide +kernel, by decide +kernel⟩
set_option maxRecDepth 100000 in
theorem jiX7_type : Cond.instanceMethod yX7_type ∈ lw_gt ∧ Cond.selects yX7_type.cls yX7_type yX7_type ∈ lw_gt := ⟨lw_in 765 rfl, lw_in 766 rfl⟩
set_option maxRecDepth 100000 in
theorem jyX7_load : jY yX7_load cX7_load 5 (some .int) 2 := ⟨lw_in 771 rfl, wn_X7, by decide +kernel, by decide +kernel⟩
set_option maxRecDepth 100000 in
theorem jiX7_load : Cond.instanceMethod yX7_load ∈ lw_gt ∧ Cond.selects yX7_load.cls yX7_load yX7_load ∈ lw_gt := ⟨lw_in 769 rfl, lw_in 770 rfl⟩
set_option maxRecDepth 100000 in
theorem jyX7_value : jY yX7_value cX7_value 3 (some .int) 1 := ⟨lw_in 775 rfl, wn_X7, by decide +kernel, by decide +kernel⟩
set_option maxRecDepth 100000 in
theorem jiX7_value : Cond.instanceMethod yX7_value ∈ lw_gt ∧ Cond.selects yX7_value.cls yX7_value yX7_value ∈ lw_gt := ⟨lw_in 773 rfl, lw_in 774 rfl⟩
set_option maxRecDepth 100000 in
theorem jyX7_takesValue : jY yX7_takesValue cX7_takesValue 1 (some .boolean) 0 := ⟨lw_in 779 rfl, wn_X7, by decide +kernel, by decide +kernel⟩
set_option maxRecDepth 100000 in
theorem jiX7_takesValue : Cond.instanceMethod yX7_takesValue ∈ lw_gt ∧ Cond.selects yX7_takesValue.cls yX7_takesValue yX7_takesValue ∈ lw_gt := ⟨lw_in 778 rfl, lw_pr 43 rfl⟩
set_option maxRecDepth 100000 in
theorem jyX7_isWhole : jY yX7_isWhole cX7_isWhole 2 (some .boolean) 1 := ⟨lw_in 783 rfl, wn_X7, by decide +kernel, by decide +kernel⟩
set_option maxRecDepth 100000 in
theorem jiX7_isWhole : Cond.instanceMethod yX7_isWhole ∈ lw_gt ∧ Cond.selects yX7_isWhole.cls yX7_isWhole yX7_isWhole ∈ lw_gt := ⟨lw_in 782 rfl, lw_pr 44 rfl⟩
set_option maxRecDepth 100000 in
theorem jyX7_wantsName : jY yX7_wantsName cX7_wantsName 2 (some .boolean) 1 := ⟨lw_in 787 rfl, wn_X7, by decide +kernel, by decide +kernel⟩
set_option maxRecDepth 100000 in
theorem jiX7_wantsName : Cond.instanceMethod yX7_wantsName ∈ lw_gt ∧ Cond.selects yX7_wantsName.cls yX7_wantsName yX7_wantsName ∈ lw_gt := ⟨lw_in 786 rfl, lw_pr 45 rfl⟩
set_option maxRecDepth 100000 in
theorem jyX7_inObject : jY yX7_inObject cX7_inObject 2 (some .boolean) 1 := ⟨lw_in 791 rfl, wn_X7, by decide +kernel, by decide +kernel⟩
set_option maxRecDepth 100000 in
theorem jiX7_inObject : Cond.instanceMethod yX7_inObject ∈ lw_gt ∧ Cond.selects yX7_inObject.cls yX7_inObject yX7_inObject ∈ lw_gt := ⟨lw_in 790 rfl, lw_pr 46 rfl⟩
set_option maxRecDepth 100000 in
theorem jyX7_top : jY yX7_top cX7_top 2 (some .int) 1 := ⟨lw_in 795 rfl, wn_X7, by decide +kernel, by decide +kernel⟩
set_option maxRecDepth 100000 in
theorem jiX7_top : Cond.instanceMethod yX7_top ∈ lw_gt ∧ Cond.selects yX7_top.cls yX7_top yX7_top ∈ lw_gt := ⟨lw_in 794 rfl, lw_pr 47 rfl⟩
set_option maxRecDepth 100000 in
theorem jyX7_mayBe : jY yX7_mayBe cX7_mayBe 4 (some .boolean) 3 := ⟨lw_in 799 rfl, wn_X7, by decide +kernel, by decide +kernel⟩
set_option maxRecDepth 100000 in
theorem jiX7_mayBe : Cond.instanceMethod yX7_mayBe ∈ lw_gt ∧ Cond.selects yX7_mayBe.cls yX7_mayBe yX7_mayBe ∈ lw_gt := ⟨lw_in 798 rfl, lw_pr 48 rfl⟩
set_option maxRecDepth 100000 in
theorem jyX7_offer : jY yX7_offer cX7_offer 2 (some .boolean) 0 := ⟨lw_in 803 rfl, wn_X7, by decide +kernel, by decide +kernel⟩
set_option maxRecDepth 100000 in
theorem jiX7_offer : Cond.instanceMethod yX7_offer ∈ lw_gt ∧ Cond.selects yX7_offer.cls yX7_offer yX7_offer ∈ lw_gt := ⟨lw_in 802 rfl, lw_pr 49 rfl⟩
set_option maxRecDepth 100000 in
theorem jyX7_isText : jY yX7_isText cX7_isText 5 (some .boolean) 2 := ⟨lw_in 807 rfl, wn_X7, by decide +kernel, by decide +kernel⟩
set_option maxRecDepth 100000 in
theorem jiX7_isText : Cond.instanceMethod yX7_isText ∈ lw_gt ∧ Cond.selects yX7_isText.cls yX7_isText yX7_isText ∈ lw_gt := ⟨lw_in 806 rfl, lw_pr 50 rfl⟩
set_option maxRecDepth 100000 in
theorem jyX7_character : jY yX7_character cX7_character 8 (some .int) 2 := ⟨lw_in 811 rfl, wn_X7, by decide +kernel, by decide +kernel⟩
set_option maxRecDepth 100000 in
theorem jiX7_character : Cond.instanceMethod yX7_character ∈ lw_gt ∧ Cond.selects yX7_character.cls yX7_character yX7_character ∈ lw_gt := ⟨lw_in 810 rfl, lw_pr 51 rfl⟩
set_option maxRecDepth 100000 in
theorem jyX7_add : jY yX7_add cX7_add 7 none 4 := ⟨lw_in 819 rfl, wn_X7, by decide +kernel, by decide +kernel⟩
set_option maxRecDepth 100000 in
theorem jiX7_add : Cond.instanceMethod yX7_add ∈ lw_gt ∧ Cond.selects yX7_add.cls yX7_add yX7_add ∈ lw_gt := ⟨lw_in 818 rfl, lw_pr 52 rfl⟩
set_option maxRecDepth 100000 in
theorem jyX7_integer : jY yX7_integer cX7_integer 3 (some .int) 1 := ⟨lw_in 823 rfl, wn_X7, by decide +kernel, by decide +kernel⟩
set_option maxRecDepth 100000 in
theorem jiX7_integer : Cond.instanceMethod yX7_integer ∈ lw_gt ∧ Cond.selects yX7_integer.cls yX7_integer yX7_integer ∈ lw_gt := ⟨lw_in 821 rfl, lw_in 822 rfl⟩
set_option maxRecDepth 100000 in
theorem jyX7_real : jY yX7_real cX7_real 5 (some .int) 2 := ⟨lw_in 827 rfl, wn_X7, by decide +kernel, by decide +kernel⟩
set_option maxRecDepth 100000 in
theorem jiX7_real : Cond.instanceMethod yX7_real ∈ lw_gt ∧ Cond.selects yX7_real.cls yX7_real yX7_real ∈ lw_gt := ⟨lw_in 825 rfl, lw_in 826 rfl⟩
set_option maxRecDepth 100000 in
theorem jyX7_name : jY yX7_name cX7_name 1 (some .int) 0 := ⟨lw_in 832 rfl, wn_X7, by decide +kernel, by decide +kernel⟩
set_option maxRecDepth 100000 in
theorem jiX7_name : Cond.instanceMethod yX7_name ∈ lw_gt ∧ Cond.selects yX7_name.cls yX7_name yX7_name ∈ lw_gt := ⟨lw_in 830 rfl, lw_in 831 rfl⟩
set_option maxRecDepth 100000 in
theorem jyX7_end : jY yX7_end cX7_end 1 (some .int) 0 := ⟨lw_in 836 rfl, wn_X7, by decide +kernel, by decide +kernel⟩
set_option maxRecDepth 100000 in
theorem jiX7_end : Cond.instanceMethod yX7_end ∈ lw_gt ∧ Cond.selects yX7_end.cls yX7_end yX7_end ∈ lw_gt := ⟨lw_in 834 rfl, lw_in 835 rfl⟩
set_option maxRecDepth 100000 in
theorem jyX7_drop : jY yX7_drop cX7_drop 2 (some .int) 0 := ⟨lw_in 840 rfl, wn_X7, by decide +kernel, by decide +kernel⟩
set_option maxRecDepth 100000 in
theorem jiX7_drop : Cond.instanceMethod yX7_drop ∈ lw_gt ∧ Cond.selects yX7_drop.cls yX7_drop yX7_drop ∈ lw_gt := ⟨lw_in 838 rfl, lw_in 839 rfl⟩
set_option maxRecDepth 100000 in
theorem jyX7_clear : jY yX7_clear cX7_clear 2 none 1 := ⟨lw_in 844 rfl, wn_X7, by decide +kernel, by decide +kernel⟩
set_option maxRecDepth 100000 in
theorem jiX7_clear : Cond.instanceMethod yX7_clear ∈ lw_gt ∧ Cond.selects yX7_clear.cls yX7_clear yX7_clear ∈ lw_gt := ⟨lw_in 843 rfl, lw_pr 53 rfl⟩
set_option maxRecDepth 100000 in
theorem jyX7_write : jY yX7_write cX7_write 4 (some .int) 1 := ⟨lw_in 848 rfl, wn_X7, by decide +kernel, by decide +kernel⟩
set_option maxRecDepth 100000 in
theorem jiX7_write : Cond.instanceMethod yX7_write ∈ lw_gt ∧ Cond.selects yX7_write.cls yX7_write yX7_write ∈ lw_gt := ⟨lw_in 846 rfl, lw_in 847 rfl⟩
set_option maxRecDepth 100000 in
theorem jyX7_put : jY yX7_put cX7_put 2 none 1 := ⟨lw_in 852 rfl, wn_X7, by decide +kernel, by decide +kernel⟩
set_option maxRecDepth 100000 in
theorem jiX7_put : Cond.instanceMethod yX7_put ∈ lw_gt ∧ Cond.selects yX7_put.cls yX7_put yX7_put ∈ lw_gt := ⟨lw_in 851 rfl, lw_pr 54 rfl⟩
set_option maxRecDepth 100000 in
theorem jyX7_putItem : jY yX7_putItem cX7_putItem 4 none 3 := ⟨lw_in 856 rfl, wn_X7, by decide +kernel, by decide +kernel⟩
set_option maxRecDepth 100000 in
theorem jiX7_putItem : Cond.instanceMethod yX7_putItem ∈ lw_gt ∧ Cond.selects yX7_putItem.cls yX7_putItem yX7_putItem ∈ lw_gt := ⟨lw_in 855 rfl, lw_pr 55 rfl⟩
set_option maxRecDepth 100000 in
theorem jyX7_putText : jY yX7_putText cX7_putText 6 none 2 := ⟨lw_in 860 rfl, wn_X7, by decide +kernel, by decide +kernel⟩
set_option maxRecDepth 100000 in
theorem jiX7_putText : Cond.instanceMethod yX7_putText ∈ lw_gt ∧ Cond.selects yX7_putText.cls yX7_putText yX7_putText ∈ lw_gt := ⟨lw_in 859 rfl, lw_pr 56 rfl⟩
set_option maxRecDepth 100000 in
theorem jyX7_find : jY yX7_find cX7_find 4 (some .int) 2 := ⟨lw_in 864 rfl, wn_X7, by decide +kernel, by decide +kernel⟩
set_option maxRecDepth 100000 in
theorem jiX7_find : Cond.instanceMethod yX7_find ∈ lw_gt ∧ Cond.selects yX7_find.cls yX7_find yX7_find ∈ lw_gt := ⟨lw_in 863 rfl, lw_pr 57 rfl⟩
set_option maxRecDepth 100000 in
theorem jyX7_isSame : jY yX7_isSame cX7_isSame 5 (some .boolean) 2 := ⟨lw_in 868 rfl, wn_X7, by decide +kernel, by decide +kernel⟩
set_option maxRecDepth 100000 in
theorem jiX7_isSame : Cond.instanceMethod yX7_isSame ∈ lw_gt ∧ Cond.selects yX7_isSame.cls yX7_isSame yX7_isSame ∈ lw_gt := ⟨lw_in 867 rfl, lw_pr 58 rfl⟩
set_option maxRecDepth 100000 in
theorem jyX7_isAscii : jY yX7_isAscii cX7_isAscii 5 (some .boolean) 2 := ⟨lw_in 872 rfl, wn_X7, by decide +kernel, by decide +kernel⟩
set_option maxRecDepth 100000 in
theorem jiX7_isAscii : Cond.instanceMethod yX7_isAscii ∈ lw_gt ∧ Cond.selects yX7_isAscii.cls yX7_isAscii yX7_isAscii ∈ lw_gt := ⟨lw_in 871 rfl, lw_pr 59 rfl⟩
set_option maxRecDepth 100000 in
theorem jyX7_putBytes : jY yX7_putBytes cX7_putBytes 3 none 1 := ⟨lw_in 876 rfl, wn_X7, by decide +kernel, by decide +kernel⟩
set_option maxRecDepth 100000 in
theorem jiX7_putBytes : Cond.instanceMethod yX7_putBytes ∈ lw_gt ∧ Cond.selects yX7_putBytes.cls yX7_putBytes yX7_putBytes ∈ lw_gt := ⟨lw_in 875 rfl, lw_pr 60 rfl⟩
set_option maxRecDepth 100000 in
theorem jyX7_keep : jY yX7_keep cX7_keep 4 none 3 := ⟨lw_in 880 rfl, wn_X7, by decide +kernel, by decide +kernel⟩
set_option maxRecDepth 100000 in
theorem jiX7_keep : Cond.instanceMethod yX7_keep ∈ lw_gt ∧ Cond.selects yX7_keep.cls yX7_keep yX7_keep ∈ lw_gt := ⟨lw_in 879 rfl, lw_pr 61 rfl⟩
set_option maxRecDepth 100000 in
theorem jyX7_putCount : jY yX7_putCount cX7_putCount 6 none 1 := ⟨lw_in 884 rfl, wn_X7, by decide +kernel, by decide +kernel⟩
set_option maxRecDepth 100000 in
theorem jiX7_putCount : Cond.instanceMethod yX7_putCount ∈ lw_gt ∧ Cond.selects yX7_putCount.cls yX7_putCount yX7_putCount ∈ lw_gt := ⟨lw_in 883 rfl, lw_pr 62 rfl⟩
set_option maxRecDepth 100000 in
theorem jyX7_putSeven : jY yX7_putSeven cX7_putSeven 5 none 1 := ⟨lw_in 890 rfl, wn_X7, by decide +kernel, by decide +kernel⟩
set_option maxRecDepth 100000 in
theorem jiX7_putSeven : Cond.instanceMethod yX7_putSeven ∈ lw_gt ∧ Cond.selects yX7_putSeven.cls yX7_putSeven yX7_putSeven ∈ lw_gt := ⟨lw_in 889 rfl, lw_pr 63 rfl⟩
set_option maxRecDepth 100000 in
theorem jyX7_putInteger : jY yX7_putInteger cX7_putInteger 5 none 1 := ⟨lw_in 894 rfl, wn_X7, by decide +kernel, by decide +kernel⟩
set_option maxRecDepth 100000 in
theorem jiX7_putInteger : Cond.instanceMethod yX7_putInteger ∈ lw_gt ∧ Cond.selects yX7_putInteger.cls yX7_putInteger yX7_putInteger ∈ lw_gt := ⟨lw_in 893 rfl, lw_pr 64 rfl⟩
set_option maxRecDepth 100000 in
theorem jyX7_putReal : jY yX7_putReal cX7_putReal 5 none 2 := ⟨lw_in 904 rfl, wn_X7, by decide +kernel, by decide +kernel⟩
set_option maxRecDepth 100000 in
theorem jiX7_putReal : Cond.instanceMethod yX7_putReal ∈ lw_gt ∧ Cond.selects yX7_putReal.cls yX7_putReal yX7_putReal ∈ lw_gt := ⟨lw_in 903 rfl, lw_pr 65 rfl⟩
set_option maxRecDepth 100000 in
theorem jyX7_putName : jY yX7_putName cX7_putName 6 none 2 := ⟨lw_in 908 rfl, wn_X7, by decide +kernel, by decide +kernel⟩
set_option maxRecDepth 100000 in
theorem jiX7_putName : Cond.instanceMethod yX7_putName ∈ lw_gt ∧ Cond.selects yX7_putName.cls yX7_putName yX7_putName ∈ lw_gt := ⟨lw_in 907 rfl, lw_pr 66 rfl⟩
set_option maxRecDepth 100000 in
theorem jyX7_written : jY yX7_written cX7_written 2 (some .int) 1 := ⟨lw_in 912 rfl, wn_X7, by decide +kernel, by decide +kernel⟩
set_option maxRecDepth 100000 in
theorem jiX7_written : Cond.instanceMethod yX7_written ∈ lw_gt ∧ Cond.selects yX7_written.cls yX7_written yX7_written ∈ lw_gt := ⟨lw_in 910 rfl, lw_in 911 rfl⟩
set_option maxRecDepth 100000 in
theorem jyX7_loop : jY yX7_loop cX7_loop 2 (some .int) 0 := ⟨lw_in 916 rfl, wn_X7, by decide +kernel, by decide +kernel⟩
set_option maxRecDepth 100000 in
theorem jiX7_loop : Cond.instanceMethod yX7_loop ∈ lw_gt ∧ Cond.selects yX7_loop.cls yX7_loop yX7_loop ∈ lw_gt := ⟨lw_in 914 rfl, lw_in 915 rfl⟩
set_option maxRecDepth 100000 in
theorem jyX7_read : jY yX7_read cX7_read 2 (some .int) 0 := ⟨lw_in 920 rfl, wn_X7, by decide +kernel, by decide +kernel⟩
set_option maxRecDepth 100000 in
theorem jiX7_read : Cond.instanceMethod yX7_read ∈ lw_gt ∧ Cond.selects yX7_read.cls yX7_read yX7_read ∈ lw_gt := ⟨lw_in 918 rfl, lw_in 919 rfl⟩
set_option maxRecDepth 100000 in
theorem jyX7_readHead : jY yX7_readHead cX7_readHead 4 none 0 := ⟨lw_in 924 rfl, wn_X7, by decide +kernel, by decide +kernel⟩
set_option maxRecDepth 100000 in
theorem jiX7_readHead : Cond.instanceMethod yX7_readHead ∈ lw_gt ∧ Cond.selects yX7_readHead.cls yX7_readHead yX7_readHead ∈ lw_gt := ⟨lw_in 923 rfl, lw_pr 67 rfl⟩
set_option maxRecDepth 100000 in
theorem jyX7_fail : jY yX7_fail cX7_fail 3 none 2 := ⟨lw_in 928 rfl, wn_X7, by decide +kernel, by decide +kernel⟩
set_option maxRecDepth 100000 in
theorem jiX7_fail : Cond.instanceMethod yX7_fail ∈ lw_gt ∧ Cond.selects yX7_fail.cls yX7_fail yX7_fail ∈ lw_gt := ⟨lw_in 927 rfl, lw_pr 68 rfl⟩
set_option maxRecDepth 100000 in
theorem jyX7_next : jY yX7_next cX7_next 1 (some .int) 0 := ⟨lw_in 932 rfl, wn_X7, by decide +kernel, by decide +kernel⟩
set_option maxRecDepth 100000 in
theorem jiX7_next : Cond.instanceMethod yX7_next ∈ lw_gt ∧ Cond.selects yX7_next.cls yX7_next yX7_next ∈ lw_gt := ⟨lw_in 931 rfl, lw_pr 69 rfl⟩
set_option maxRecDepth 100000 in
theorem jyX7_readName : jY yX7_readName cX7_readName 4 none 1 := ⟨lw_in 936 rfl, wn_X7, by decide +kernel, by decide +kernel⟩
set_option maxRecDepth 100000 in
theorem jiX7_readName : Cond.instanceMethod yX7_readName ∈ lw_gt ∧ Cond.selects yX7_readName.cls yX7_readName yX7_readName ∈ lw_gt := ⟨lw_in 935 rfl, lw_pr 70 rfl⟩
set_option maxRecDepth 100000 in
theorem jyX7_addGot : jY yX7_addGot cX7_addGot 4 none 3 := ⟨lw_in 940 rfl, wn_X7, by decide +kernel, by decide +kernel⟩
set_option maxRecDepth 100000 in
theorem jiX7_addGot : Cond.instanceMethod yX7_addGot ∈ lw_gt ∧ Cond.selects yX7_addGot.cls yX7_addGot yX7_addGot ∈ lw_gt := ⟨lw_in 939 rfl, lw_pr 71 rfl⟩
set_option maxRecDepth 100000 in
theorem jyX7_addTaken : jY yX7_addTaken cX7_addTaken 3 none 1 := ⟨lw_in 944 rfl, wn_X7, by decide +kernel, by decide +kernel⟩
set_option maxRecDepth 100000 in
theorem jiX7_addTaken : Cond.instanceMethod yX7_addTaken ∈ lw_gt ∧ Cond.selects yX7_addTaken.cls yX7_addTaken yX7_addTaken ∈ lw_gt := ⟨lw_in 943 rfl, lw_pr 72 rfl⟩
set_option maxRecDepth 100000 in
theorem jyX7_addPlaced : jY yX7_addPlaced cX7_addPlaced 6 none 3 := ⟨lw_in 948 rfl, wn_X7, by decide +kernel, by decide +kernel⟩
set_option maxRecDepth 100000 in
theorem jiX7_addPlaced : Cond.instanceMethod yX7_addPlaced ∈ lw_gt ∧ Cond.selects yX7_addPlaced.cls yX7_addPlaced yX7_addPlaced ∈ lw_gt := ⟨lw_in 947 rfl, lw_pr 73 rfl⟩
set_option maxRecDepth 100000 in
theorem jyX7_take : jY yX7_take cX7_take 2 none 1 := ⟨lw_in 952 rfl, wn_X7, by decide +kernel, by decide +kernel⟩
set_option maxRecDepth 100000 in
theorem jiX7_take : Cond.instanceMethod yX7_take ∈ lw_gt ∧ Cond.selects yX7_take.cls yX7_take yX7_take ∈ lw_gt := ⟨lw_in 951 rfl, lw_pr 74 rfl⟩
set_option maxRecDepth 100000 in
theorem jyX7_takeLong : jY yX7_takeLong cX7_takeLong 2 none 0 := ⟨lw_in 956 rfl, wn_X7, by decide +kernel, by decide +kernel⟩
set_option maxRecDepth 100000 in
theorem jiX7_takeLong : Cond.instanceMethod yX7_takeLong ∈ lw_gt ∧ Cond.selects yX7_takeLong.cls yX7_takeLong yX7_takeLong ∈ lw_gt := ⟨lw_in 955 rfl, lw_pr 75 rfl⟩
set_option maxRecDepth 100000 in
theorem jyX7_takeMany : jY yX7_takeMany cX7_takeMany 4 none 1 := ⟨lw_in 960 rfl, wn_X7, by decide +kernel, by decide +kernel⟩
set_option maxRecDepth 100000 in
theorem jiX7_takeMany : Cond.instanceMethod yX7_takeMany ∈ lw_gt ∧ Cond.selects yX7_takeMany.cls yX7_takeMany yX7_takeMany ∈ lw_gt := ⟨lw_in 959 rfl, lw_pr 76 rfl⟩
set_option maxRecDepth 100000 in
theorem jyX7_addPlain : jY yX7_addPlain cX7_addPlain 5 none 3 := ⟨lw_in 964 rfl, wn_X7, by decide +kernel, by decide +kernel⟩
set_option maxRecDepth 100000 in
theorem jiX7_addPlain : Cond.instanceMethod yX7_addPlain ∈ lw_gt ∧ Cond.selects yX7_addPlain.cls yX7_addPlain yX7_addPlain ∈ lw_gt := ⟨lw_in 963 rfl, lw_pr 77 rfl⟩
set_option maxRecDepth 100000 in
theorem jyX7_readValue : jY yX7_readValue cX7_readValue 4 none 1 := ⟨lw_in 968 rfl, wn_X7, by decide +kernel, by decide +kernel⟩
set_option maxRecDepth 100000 in
theorem jiX7_readValue : Cond.instanceMethod yX7_readValue ∈ lw_gt ∧ Cond.selects yX7_readValue.cls yX7_readValue yX7_readValue ∈ lw_gt := ⟨lw_in 967 rfl, lw_pr 78 rfl⟩
set_option maxRecDepth 100000 in
theorem jyX7_readCount : jY yX7_readCount cX7_readCount 8 (some .long) 2 := ⟨lw_in 972 rfl, wn_X7, by decide +kernel, by decide +kernel⟩
set_option maxRecDepth 100000 in
theorem jiX7_readCount : Cond.instanceMethod yX7_readCount ∈ lw_gt ∧ Cond.selects yX7_readCount.cls yX7_readCount yX7_readCount ∈ lw_gt := ⟨lw_in 971 rfl, lw_pr 79 rfl⟩
set_option maxRecDepth 100000 in
theorem jyX7_unzigzag : jY yX7_unzigzag cX7_unzigzag 2 (some .long) 1 := ⟨lw_in 975 rfl, wn_X7, by decide +kernel, by decide +kernel⟩
set_option maxRecDepth 100000 in
theorem jtX7_unzigzag : Cond.static yX7_unzigzag ∈ lw_gt := lw_in 974 rfl
set_option maxRecDepth 100000 in
theorem jyX7_readReal : jY yX7_readReal cX7_readReal 8 (some .long) 2 := ⟨lw_in 979 rfl, wn_X7, by decide +kernel, by decide +kernel⟩
set_option maxRecDepth 100000 in
theorem jiX7_readReal : Cond.instanceMethod yX7_readReal ∈ lw_gt ∧ Cond.selects yX7_readReal.cls yX7_readReal yX7_readReal ∈ lw_gt := ⟨lw_in 978 rfl, lw_pr 80 rfl⟩
set_option maxRecDepth 100000 in
theorem jyX7_takeSeven : jY yX7_takeSeven cX7_takeSeven 9 none 1 := ⟨lw_in 983 rfl, wn_X7, by decide +kernel, by decide +kernel⟩
set_option maxRecDepth 100000 in
theorem jiX7_takeSeven : Cond.instanceMethod yX7_takeSeven ∈ lw_gt ∧ Cond.selects yX7_takeSeven.cls yX7_takeSeven yX7_takeSeven ∈ lw_gt := ⟨lw_in 982 rfl, lw_pr 81 rfl⟩
set_option maxRecDepth 100000 in
theorem jyX7_readText : jY yX7_readText cX7_readText 4 none 1 := ⟨lw_in 991 rfl, wn_X7, by decide +kernel, by decide +kernel⟩
set_option maxRecDepth 100000 in
theorem jiX7_readText : Cond.instanceMethod yX7_readText ∈ lw_gt ∧ Cond.selects yX7_readText.cls yX7_readText yX7_readText ∈ lw_gt := ⟨lw_in 990 rfl, lw_pr 82 rfl⟩
set_option maxRecDepth 100000 in
theorem jyX7_holdRead : jY yX7_holdRead cX7_holdRead 2 none 0 := ⟨lw_in 995 rfl, wn_X7, by decide +kernel, by decide +kernel⟩
set_option maxRecDepth 100000 in
theorem jiX7_holdRead : Cond.instanceMethod yX7_holdRead ∈ lw_gt ∧ Cond.selects yX7_holdRead.cls yX7_holdRead yX7_holdRead ∈ lw_gt := ⟨lw_in 994 rfl, lw_pr 83 rfl⟩
set_option maxRecDepth 100000 in
theorem jyX7_place : jY yX7_place cX7_place 1 (some .int) 0 := ⟨lw_in 999 rfl, wn_X7, by decide +kernel, by decide +kernel⟩
set_option maxRecDepth 100000 in
theorem jiX7_place : Cond.instanceMethod yX7_place ∈ lw_gt ∧ Cond.selects yX7_place.cls yX7_place yX7_place ∈ lw_gt := ⟨lw_in 997 rfl, lw_in 998 rfl⟩
set_option maxRecDepth 100000 in
theorem jyX7_item : jY yX7_item cX7_item 3 (some .int) 2 := ⟨lw_in 1003 rfl, wn_X7, by decide +kernel, by decide +kernel⟩
set_option maxRecDepth 100000 in
theorem jiX7_item : Cond.instanceMethod yX7_item ∈ lw_gt ∧ Cond.selects yX7_item.cls yX7_item yX7_item ∈ lw_gt := ⟨lw_in 1001 rfl, lw_in 1002 rfl⟩
set_option maxRecDepth 100000 in
theorem jyX7_isItem : jY yX7_isItem cX7_isItem 2 (some .boolean) 1 := ⟨lw_in 1007 rfl, wn_X7, by decide +kernel, by decide +kernel⟩
set_option maxRecDepth 100000 in
theorem jiX7_isItem : Cond.instanceMethod yX7_isItem ∈ lw_gt ∧ Cond.selects yX7_isItem.cls yX7_isItem yX7_isItem ∈ lw_gt := ⟨lw_in 1006 rfl, lw_pr 84 rfl⟩
set_option maxRecDepth 100000 in
theorem jyX7_number : jY yX7_number cX7_number 2 (some .long) 1 := ⟨lw_in 1011 rfl, wn_X7, by decide +kernel, by decide +kernel⟩
set_option maxRecDepth 100000 in
theorem jiX7_number : Cond.instanceMethod yX7_number ∈ lw_gt ∧ Cond.selects yX7_number.cls yX7_number yX7_number ∈ lw_gt := ⟨lw_in 1009 rfl, lw_in 1010 rfl⟩
set_option maxRecDepth 100000 in
theorem jyX7_byteOf : jY yX7_byteOf cX7_byteOf 3 (some .int) 2 := ⟨lw_in 1015 rfl, wn_X7, by decide +kernel, by decide +kernel⟩
set_option maxRecDepth 100000 in
theorem jiX7_byteOf : Cond.instanceMethod yX7_byteOf ∈ lw_gt ∧ Cond.selects yX7_byteOf.cls yX7_byteOf yX7_byteOf ∈ lw_gt := ⟨lw_in 1013 rfl, lw_in 1014 rfl⟩
set_option maxRecDepth 100000 in
theorem jyX7_count : jY yX7_count cX7_count 2 (some .int) 1 := ⟨lw_in 1019 rfl, wn_X7, by decide +kernel, by decide +kernel⟩
set_option maxRecDepth 100000 in
theorem jiX7_count : Cond.instanceMethod yX7_count ∈ lw_gt ∧ Cond.selects yX7_count.cls yX7_count yX7_count ∈ lw_gt := ⟨lw_in 1017 rfl, lw_in 1018 rfl⟩
set_option maxRecDepth 100000 in
theorem jyX7_check : jY yX7_check cX7_check 1 (some .int) 0 := ⟨lw_in 1023 rfl, wn_X7, by decide +kernel, by decide +kernel⟩
set_option maxRecDepth 100000 in
theorem jiX7_check : Cond.instanceMethod yX7_check ∈ lw_gt ∧ Cond.selects yX7_check.cls yX7_check yX7_check ∈ lw_gt := ⟨lw_in 1021 rfl, lw_in 1022 rfl⟩
set_option maxRecDepth 100000 in
theorem kX0 : jC 0 RX0 TX0 10 tyX0 := ⟨by decide +kernel, rfl, tyX0_ok, nmX0⟩
set_option maxRecDepth 100000 in
theorem kX1 : jC 1 RX1 TX1 16 tyX1 := ⟨by decide +kernel, rfl, tyX1_ok, nmX1⟩
set_option maxRecDepth 100000 in
theorem kX2 : jC 2 RX2 TX2 3 tyX2 := ⟨by decide +kernel, rfl, tyX2_ok, nmX2⟩
set_option maxRecDepth 100000 in
theorem kX3 : jC 3 RX3 TX3 4 tyX3 := ⟨by decide +kernel, rfl, tyX3_ok, nmX3⟩
set_option maxRecDepth 100000 in
theorem kX5 : jC 4 RX5 TX5 6 tyX5 := ⟨by decide +kernel, rfl, tyX5_ok, nmX5⟩
set_option maxRecDepth 100000 in
theorem kX6 : jC 5 RX6 TX6 8 tyX6 := ⟨by decide +kernel, rfl, tyX6_ok, nmX6⟩
set_option maxRecDepth 100000 in
theorem kX7 : jC 6 RX7 TX7 28 tyX7 := ⟨by decide +kernel, rfl, tyX7_ok, nmX7⟩
