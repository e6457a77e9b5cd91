def xMlaw : xM := (⟨"TwinFiresLaw", "law", "([I)Z"⟩, code, 4, some .boolean, [], [], [(0, 0), (0, 1), (0, 7), (0, 8), (1, 0), (1, 1), (1, 2), (1, 3), (1, 4), (1, 5), (1, 6), (1, 7), (1, 8), (2, 0), (2, 6), (2, 12), (3, 0), (3, 1), (3, 2), (3, 3), (3, 4), (3, 5), (3, 6), (3, 7), (3, 8), (3, 9), (3, 10), (3, 11), (3, 12), (3, 13), (3, 14), (3, 15), (4, 2), (4, 3), (4, 4), (5, 0), (5, 1), (7, 0), (7, 1), (7, 2), (7, 3), (8, 1), (8, 4), (8, 5), (9, 0), (9, 2), (9, 3), (9, 4), (9, 5), (10, 0), (10, 1), (10, 2), (10, 3), (10, 4), (10, 5), (10, 6), (10, 7), (11, 0), (11, 1), (11, 2), (11, 3), (11, 4), (12, 0), (12, 1), (12, 2), (12, 3), (12, 4), (13, 0), (13, 1), (13, 2), (13, 3), (13, 4), (14, 0), (14, 1), (14, 2), (14, 3), (14, 4), (15, 0), (15, 1), (15, 2), (15, 3), (15, 4), (16, 0), (16, 1), (16, 2), (16, 3), (16, 4), (17, 5), (17, 6), (17, 7), (17, 10), (17, 11), (17, 12), (17, 13), (17, 14), (17, 17), (18, 0), (18, 1), (18, 2), (18, 3), (18, 4), (18, 5), (18, 6), (18, 7), (18, 8), (18, 9), (18, 10), (18, 11), (18, 12), (18, 13), (18, 14), (18, 15), (18, 16), (18, 17), (18, 18), (18, 19), (18, 20), (18, 21), (18, 22), (18, 23), (18, 24), (18, 25), (18, 26), (19, 0), (20, 0), (21, 0), (22, 0), (23, 0), (24, 0), (25, 0), (26, 0), (27, 0), (28, 0), (29, 0), (30, 0), (31, 0), (32, 0), (33, 0), (34, 0), (35, 0), (36, 0), (37, 0), (38, 0), (39, 0), (40, 0), (41, 0), (42, 0), (46, 0), (47, 0), (48, 0), (49, 0), (50, 0), (51, 0), (52, 0), (53, 0), (54, 0), (55, 0), (56, 0), (57, 0), (58, 0), (59, 0), (60, 0), (61, 0), (62, 0), (63, 0), (64, 0)], (11, 392, 600000, 7302250), none)
theorem la_d0 : decode xMlaw.2.1 0 = .ok (.new 7, 3) := dz_ok (by decide +kernel)
theorem la_d3 : decode xMlaw.2.1 3 = .ok (.dup, 1) := dz_ok (by decide +kernel)
theorem la_d4 : decode xMlaw.2.1 4 = .ok (.invokespecial 9, 3) := dz_ok (by decide +kernel)
theorem la_d7 : decode xMlaw.2.1 7 = .ok (.astore_n 1, 1) := dz_ok (by decide +kernel)
theorem la_d8 : decode xMlaw.2.1 8 = .ok (.new 10, 3) := dz_ok (by decide +kernel)
theorem la_d11 : decode xMlaw.2.1 11 = .ok (.dup, 1) := dz_ok (by decide +kernel)
theorem la_d12 : decode xMlaw.2.1 12 = .ok (.invokespecial 12, 3) := dz_ok (by decide +kernel)
theorem la_d15 : decode xMlaw.2.1 15 = .ok (.astore_n 2, 1) := dz_ok (by decide +kernel)
theorem la_d16 : decode xMlaw.2.1 16 = .ok (.iconst 0, 1) := dz_ok (by decide +kernel)
theorem la_d17 : decode xMlaw.2.1 17 = .ok (.istore_n 3, 1) := dz_ok (by decide +kernel)
theorem la_d18 : decode xMlaw.2.1 18 = .ok (.iload_n 3, 1) := dz_ok (by decide +kernel)
theorem la_d19 : decode xMlaw.2.1 19 = .ok (.aload_n 0, 1) := dz_ok (by decide +kernel)
theorem la_d20 : decode xMlaw.2.1 20 = .ok (.arraylength, 1) := dz_ok (by decide +kernel)
theorem la_d21 : decode xMlaw.2.1 21 = .ok (.bipush 6, 2) := dz_ok (by decide +kernel)
theorem la_d23 : decode xMlaw.2.1 23 = .ok (.isub, 1) := dz_ok (by decide +kernel)
theorem la_d24 : decode xMlaw.2.1 24 = .ok (.if_icmp .gt 1483, 3) := dz_ok (by decide +kernel)
theorem la_d27 : decode xMlaw.2.1 27 = .ok (.aload_n 0, 1) := dz_ok (by decide +kernel)
theorem la_d28 : decode xMlaw.2.1 28 = .ok (.iload_n 3, 1) := dz_ok (by decide +kernel)
theorem la_d29 : decode xMlaw.2.1 29 = .ok (.iaload, 1) := dz_ok (by decide +kernel)
theorem la_d30 : decode xMlaw.2.1 30 = .ok (.bipush 63, 2) := dz_ok (by decide +kernel)
theorem la_d32 : decode xMlaw.2.1 32 = .ok (.iand, 1) := dz_ok (by decide +kernel)
theorem la_d33 : decode xMlaw.2.1 33 = .ok (.tableswitch 1468 0 40 #[179, 222, 285, 318, 367, 400, 423, 456, 499, 562, 575, 588, 621, 654, 687, 710, 733, 766, 789, 822, 855, 878, 921, 954, 997, 1040, 1063, 1076, 1109, 1142, 1175, 1198, 1231, 1264, 1307, 1340, 1363, 1386, 1409, 1432, 1455], 179) := dz_ok (by decide +kernel)
theorem la_d212 : decode xMlaw.2.1 212 = .ok (.aload_n 1, 1) := dz_ok (by decide +kernel)
theorem la_d213 : decode xMlaw.2.1 213 = .ok (.aload_n 0, 1) := dz_ok (by decide +kernel)
theorem la_d214 : decode xMlaw.2.1 214 = .ok (.iload_n 3, 1) := dz_ok (by decide +kernel)
theorem la_d215 : decode xMlaw.2.1 215 = .ok (.iconst 1, 1) := dz_ok (by decide +kernel)
theorem la_d216 : decode xMlaw.2.1 216 = .ok (.iadd, 1) := dz_ok (by decide +kernel)
theorem la_d217 : decode xMlaw.2.1 217 = .ok (.iaload, 1) := dz_ok (by decide +kernel)
theorem la_d218 : decode xMlaw.2.1 218 = .ok (.aload_n 0, 1) := dz_ok (by decide +kernel)
theorem la_d219 : decode xMlaw.2.1 219 = .ok (.iload_n 3, 1) := dz_ok (by decide +kernel)
theorem la_d220 : decode xMlaw.2.1 220 = .ok (.iconst 2, 1) := dz_ok (by decide +kernel)
theorem la_d221 : decode xMlaw.2.1 221 = .ok (.iadd, 1) := dz_ok (by decide +kernel)
theorem la_d222 : decode xMlaw.2.1 222 = .ok (.iaload, 1) := dz_ok (by decide +kernel)
theorem la_d223 : decode xMlaw.2.1 223 = .ok (.aload_n 0, 1) := dz_ok (by decide +kernel)
theorem la_d224 : decode xMlaw.2.1 224 = .ok (.iload_n 3, 1) := dz_ok (by decide +kernel)
theorem la_d225 : decode xMlaw.2.1 225 = .ok (.iconst 3, 1) := dz_ok (by decide +kernel)
theorem la_d226 : decode xMlaw.2.1 226 = .ok (.iadd, 1) := dz_ok (by decide +kernel)
theorem la_d227 : decode xMlaw.2.1 227 = .ok (.iaload, 1) := dz_ok (by decide +kernel)
theorem la_d228 : decode xMlaw.2.1 228 = .ok (.invokevirtual 13, 3) := dz_ok (by decide +kernel)
theorem la_d231 : decode xMlaw.2.1 231 = .ok (.pop, 1) := dz_ok (by decide +kernel)
theorem la_d232 : decode xMlaw.2.1 232 = .ok (.aload_n 2, 1) := dz_ok (by decide +kernel)
theorem la_d233 : decode xMlaw.2.1 233 = .ok (.aload_n 0, 1) := dz_ok (by decide +kernel)
theorem la_d234 : decode xMlaw.2.1 234 = .ok (.iload_n 3, 1) := dz_ok (by decide +kernel)
theorem la_d235 : decode xMlaw.2.1 235 = .ok (.iconst 1, 1) := dz_ok (by decide +kernel)
theorem la_d236 : decode xMlaw.2.1 236 = .ok (.iadd, 1) := dz_ok (by decide +kernel)
theorem la_d237 : decode xMlaw.2.1 237 = .ok (.iaload, 1) := dz_ok (by decide +kernel)
theorem la_d238 : decode xMlaw.2.1 238 = .ok (.aload_n 0, 1) := dz_ok (by decide +kernel)
theorem la_d239 : decode xMlaw.2.1 239 = .ok (.iload_n 3, 1) := dz_ok (by decide +kernel)
theorem la_d240 : decode xMlaw.2.1 240 = .ok (.iconst 2, 1) := dz_ok (by decide +kernel)
theorem la_d241 : decode xMlaw.2.1 241 = .ok (.iadd, 1) := dz_ok (by decide +kernel)
theorem la_d242 : decode xMlaw.2.1 242 = .ok (.iaload, 1) := dz_ok (by decide +kernel)
theorem la_d243 : decode xMlaw.2.1 243 = .ok (.aload_n 0, 1) := dz_ok (by decide +kernel)
theorem la_d244 : decode xMlaw.2.1 244 = .ok (.iload_n 3, 1) := dz_ok (by decide +kernel)
theorem la_d245 : decode xMlaw.2.1 245 = .ok (.iconst 3, 1) := dz_ok (by decide +kernel)
theorem la_d246 : decode xMlaw.2.1 246 = .ok (.iadd, 1) := dz_ok (by decide +kernel)
theorem la_d247 : decode xMlaw.2.1 247 = .ok (.iaload, 1) := dz_ok (by decide +kernel)
theorem la_d248 : decode xMlaw.2.1 248 = .ok (.invokevirtual 17, 3) := dz_ok (by decide +kernel)
theorem la_d251 : decode xMlaw.2.1 251 = .ok (.pop, 1) := dz_ok (by decide +kernel)
theorem la_d252 : decode xMlaw.2.1 252 = .ok (.goto 1249, 3) := dz_ok (by decide +kernel)
theorem la_d255 : decode xMlaw.2.1 255 = .ok (.aload_n 1, 1) := dz_ok (by decide +kernel)
theorem la_d256 : decode xMlaw.2.1 256 = .ok (.aload_n 0, 1) := dz_ok (by decide +kernel)
theorem la_d257 : decode xMlaw.2.1 257 = .ok (.iload_n 3, 1) := dz_ok (by decide +kernel)
theorem la_d258 : decode xMlaw.2.1 258 = .ok (.iconst 1, 1) := dz_ok (by decide +kernel)
theorem la_d259 : decode xMlaw.2.1 259 = .ok (.iadd, 1) := dz_ok (by decide +kernel)
theorem la_d260 : decode xMlaw.2.1 260 = .ok (.iaload, 1) := dz_ok (by decide +kernel)
theorem la_d261 : decode xMlaw.2.1 261 = .ok (.aload_n 0, 1) := dz_ok (by decide +kernel)
theorem la_d262 : decode xMlaw.2.1 262 = .ok (.iload_n 3, 1) := dz_ok (by decide +kernel)
theorem la_d263 : decode xMlaw.2.1 263 = .ok (.iconst 2, 1) := dz_ok (by decide +kernel)
theorem la_d264 : decode xMlaw.2.1 264 = .ok (.iadd, 1) := dz_ok (by decide +kernel)
theorem la_d265 : decode xMlaw.2.1 265 = .ok (.iaload, 1) := dz_ok (by decide +kernel)
theorem la_d266 : decode xMlaw.2.1 266 = .ok (.aload_n 0, 1) := dz_ok (by decide +kernel)
theorem la_d267 : decode xMlaw.2.1 267 = .ok (.iload_n 3, 1) := dz_ok (by decide +kernel)
theorem la_d268 : decode xMlaw.2.1 268 = .ok (.iconst 3, 1) := dz_ok (by decide +kernel)
theorem la_d269 : decode xMlaw.2.1 269 = .ok (.iadd, 1) := dz_ok (by decide +kernel)
theorem la_d270 : decode xMlaw.2.1 270 = .ok (.iaload, 1) := dz_ok (by decide +kernel)
theorem la_d271 : decode xMlaw.2.1 271 = .ok (.aload_n 0, 1) := dz_ok (by decide +kernel)
theorem la_d272 : decode xMlaw.2.1 272 = .ok (.iload_n 3, 1) := dz_ok (by decide +kernel)
theorem la_d273 : decode xMlaw.2.1 273 = .ok (.iconst 4, 1) := dz_ok (by decide +kernel)
theorem la_d274 : decode xMlaw.2.1 274 = .ok (.iadd, 1) := dz_ok (by decide +kernel)
theorem la_d275 : decode xMlaw.2.1 275 = .ok (.iaload, 1) := dz_ok (by decide +kernel)
theorem la_d276 : decode xMlaw.2.1 276 = .ok (.aload_n 0, 1) := dz_ok (by decide +kernel)
theorem la_d277 : decode xMlaw.2.1 277 = .ok (.iload_n 3, 1) := dz_ok (by decide +kernel)
theorem la_d278 : decode xMlaw.2.1 278 = .ok (.iconst 5, 1) := dz_ok (by decide +kernel)
theorem la_d279 : decode xMlaw.2.1 279 = .ok (.iadd, 1) := dz_ok (by decide +kernel)
theorem la_d280 : decode xMlaw.2.1 280 = .ok (.iaload, 1) := dz_ok (by decide +kernel)
theorem la_d281 : decode xMlaw.2.1 281 = .ok (.invokevirtual 18, 3) := dz_ok (by decide +kernel)
theorem la_d284 : decode xMlaw.2.1 284 = .ok (.pop, 1) := dz_ok (by decide +kernel)
theorem la_d285 : decode xMlaw.2.1 285 = .ok (.aload_n 2, 1) := dz_ok (by decide +kernel)
theorem la_d286 : decode xMlaw.2.1 286 = .ok (.aload_n 0, 1) := dz_ok (by decide +kernel)
theorem la_d287 : decode xMlaw.2.1 287 = .ok (.iload_n 3, 1) := dz_ok (by decide +kernel)
theorem la_d288 : decode xMlaw.2.1 288 = .ok (.iconst 1, 1) := dz_ok (by decide +kernel)
theorem la_d289 : decode xMlaw.2.1 289 = .ok (.iadd, 1) := dz_ok (by decide +kernel)
theorem la_d290 : decode xMlaw.2.1 290 = .ok (.iaload, 1) := dz_ok (by decide +kernel)
theorem la_d291 : decode xMlaw.2.1 291 = .ok (.aload_n 0, 1) := dz_ok (by decide +kernel)
theorem la_d292 : decode xMlaw.2.1 292 = .ok (.iload_n 3, 1) := dz_ok (by decide +kernel)
theorem la_d293 : decode xMlaw.2.1 293 = .ok (.iconst 2, 1) := dz_ok (by decide +kernel)
theorem la_d294 : decode xMlaw.2.1 294 = .ok (.iadd, 1) := dz_ok (by decide +kernel)
theorem la_d295 : decode xMlaw.2.1 295 = .ok (.iaload, 1) := dz_ok (by decide +kernel)
theorem la_d296 : decode xMlaw.2.1 296 = .ok (.aload_n 0, 1) := dz_ok (by decide +kernel)
theorem la_d297 : decode xMlaw.2.1 297 = .ok (.iload_n 3, 1) := dz_ok (by decide +kernel)
theorem la_d298 : decode xMlaw.2.1 298 = .ok (.iconst 3, 1) := dz_ok (by decide +kernel)
theorem la_d299 : decode xMlaw.2.1 299 = .ok (.iadd, 1) := dz_ok (by decide +kernel)
theorem la_d300 : decode xMlaw.2.1 300 = .ok (.iaload, 1) := dz_ok (by decide +kernel)
theorem la_d301 : decode xMlaw.2.1 301 = .ok (.aload_n 0, 1) := dz_ok (by decide +kernel)
theorem la_d302 : decode xMlaw.2.1 302 = .ok (.iload_n 3, 1) := dz_ok (by decide +kernel)
theorem la_d303 : decode xMlaw.2.1 303 = .ok (.iconst 4, 1) := dz_ok (by decide +kernel)
theorem la_d304 : decode xMlaw.2.1 304 = .ok (.iadd, 1) := dz_ok (by decide +kernel)
theorem la_d305 : decode xMlaw.2.1 305 = .ok (.iaload, 1) := dz_ok (by decide +kernel)
theorem la_d306 : decode xMlaw.2.1 306 = .ok (.aload_n 0, 1) := dz_ok (by decide +kernel)
theorem la_d307 : decode xMlaw.2.1 307 = .ok (.iload_n 3, 1) := dz_ok (by decide +kernel)
theorem la_d308 : decode xMlaw.2.1 308 = .ok (.iconst 5, 1) := dz_ok (by decide +kernel)
theorem la_d309 : decode xMlaw.2.1 309 = .ok (.iadd, 1) := dz_ok (by decide +kernel)
theorem la_d310 : decode xMlaw.2.1 310 = .ok (.iaload, 1) := dz_ok (by decide +kernel)
theorem la_d311 : decode xMlaw.2.1 311 = .ok (.invokevirtual 22, 3) := dz_ok (by decide +kernel)
theorem la_d314 : decode xMlaw.2.1 314 = .ok (.pop, 1) := dz_ok (by decide +kernel)
theorem la_d315 : decode xMlaw.2.1 315 = .ok (.goto 1186, 3) := dz_ok (by decide +kernel)
theorem la_d318 : decode xMlaw.2.1 318 = .ok (.aload_n 1, 1) := dz_ok (by decide +kernel)
theorem la_d319 : decode xMlaw.2.1 319 = .ok (.aload_n 0, 1) := dz_ok (by decide +kernel)
theorem la_d320 : decode xMlaw.2.1 320 = .ok (.iload_n 3, 1) := dz_ok (by decide +kernel)
theorem la_d321 : decode xMlaw.2.1 321 = .ok (.iconst 1, 1) := dz_ok (by decide +kernel)
theorem la_d322 : decode xMlaw.2.1 322 = .ok (.iadd, 1) := dz_ok (by decide +kernel)
theorem la_d323 : decode xMlaw.2.1 323 = .ok (.iaload, 1) := dz_ok (by decide +kernel)
theorem la_d324 : decode xMlaw.2.1 324 = .ok (.aload_n 0, 1) := dz_ok (by decide +kernel)
theorem la_d325 : decode xMlaw.2.1 325 = .ok (.iload_n 3, 1) := dz_ok (by decide +kernel)
theorem la_d326 : decode xMlaw.2.1 326 = .ok (.iconst 2, 1) := dz_ok (by decide +kernel)
theorem la_d327 : decode xMlaw.2.1 327 = .ok (.iadd, 1) := dz_ok (by decide +kernel)
theorem la_d328 : decode xMlaw.2.1 328 = .ok (.iaload, 1) := dz_ok (by decide +kernel)
theorem la_d329 : decode xMlaw.2.1 329 = .ok (.invokevirtual 23, 3) := dz_ok (by decide +kernel)
theorem la_d332 : decode xMlaw.2.1 332 = .ok (.pop, 1) := dz_ok (by decide +kernel)
theorem la_d333 : decode xMlaw.2.1 333 = .ok (.aload_n 2, 1) := dz_ok (by decide +kernel)
theorem la_d334 : decode xMlaw.2.1 334 = .ok (.aload_n 0, 1) := dz_ok (by decide +kernel)
theorem la_d335 : decode xMlaw.2.1 335 = .ok (.iload_n 3, 1) := dz_ok (by decide +kernel)
theorem la_d336 : decode xMlaw.2.1 336 = .ok (.iconst 1, 1) := dz_ok (by decide +kernel)
theorem la_d337 : decode xMlaw.2.1 337 = .ok (.iadd, 1) := dz_ok (by decide +kernel)
theorem la_d338 : decode xMlaw.2.1 338 = .ok (.iaload, 1) := dz_ok (by decide +kernel)
theorem la_d339 : decode xMlaw.2.1 339 = .ok (.aload_n 0, 1) := dz_ok (by decide +kernel)
theorem la_d340 : decode xMlaw.2.1 340 = .ok (.iload_n 3, 1) := dz_ok (by decide +kernel)
theorem la_d341 : decode xMlaw.2.1 341 = .ok (.iconst 2, 1) := dz_ok (by decide +kernel)
theorem la_d342 : decode xMlaw.2.1 342 = .ok (.iadd, 1) := dz_ok (by decide +kernel)
theorem la_d343 : decode xMlaw.2.1 343 = .ok (.iaload, 1) := dz_ok (by decide +kernel)
theorem la_d344 : decode xMlaw.2.1 344 = .ok (.invokevirtual 27, 3) := dz_ok (by decide +kernel)
theorem la_d347 : decode xMlaw.2.1 347 = .ok (.pop, 1) := dz_ok (by decide +kernel)
theorem la_d348 : decode xMlaw.2.1 348 = .ok (.goto 1153, 3) := dz_ok (by decide +kernel)
theorem la_d351 : decode xMlaw.2.1 351 = .ok (.aload_n 1, 1) := dz_ok (by decide +kernel)
theorem la_d352 : decode xMlaw.2.1 352 = .ok (.aload_n 0, 1) := dz_ok (by decide +kernel)
theorem la_d353 : decode xMlaw.2.1 353 = .ok (.iload_n 3, 1) := dz_ok (by decide +kernel)
theorem la_d354 : decode xMlaw.2.1 354 = .ok (.iconst 1, 1) := dz_ok (by decide +kernel)
theorem la_d355 : decode xMlaw.2.1 355 = .ok (.iadd, 1) := dz_ok (by decide +kernel)
theorem la_d356 : decode xMlaw.2.1 356 = .ok (.iaload, 1) := dz_ok (by decide +kernel)
theorem la_d357 : decode xMlaw.2.1 357 = .ok (.aload_n 0, 1) := dz_ok (by decide +kernel)
theorem la_d358 : decode xMlaw.2.1 358 = .ok (.iload_n 3, 1) := dz_ok (by decide +kernel)
theorem la_d359 : decode xMlaw.2.1 359 = .ok (.iconst 2, 1) := dz_ok (by decide +kernel)
theorem la_d360 : decode xMlaw.2.1 360 = .ok (.iadd, 1) := dz_ok (by decide +kernel)
theorem la_d361 : decode xMlaw.2.1 361 = .ok (.iaload, 1) := dz_ok (by decide +kernel)
theorem la_d362 : decode xMlaw.2.1 362 = .ok (.ifCond .eq 7, 3) := dz_ok (by decide +kernel)
theorem la_d365 : decode xMlaw.2.1 365 = .ok (.iconst 1, 1) := dz_ok (by decide +kernel)
theorem la_d366 : decode xMlaw.2.1 366 = .ok (.goto 4, 3) := dz_ok (by decide +kernel)
theorem la_d369 : decode xMlaw.2.1 369 = .ok (.iconst 0, 1) := dz_ok (by decide +kernel)
theorem la_d370 : decode xMlaw.2.1 370 = .ok (.invokevirtual 28, 3) := dz_ok (by decide +kernel)
theorem la_d373 : decode xMlaw.2.1 373 = .ok (.pop, 1) := dz_ok (by decide +kernel)
theorem la_d374 : decode xMlaw.2.1 374 = .ok (.aload_n 2, 1) := dz_ok (by decide +kernel)
theorem la_d375 : decode xMlaw.2.1 375 = .ok (.aload_n 0, 1) := dz_ok (by decide +kernel)
theorem la_d376 : decode xMlaw.2.1 376 = .ok (.iload_n 3, 1) := dz_ok (by decide +kernel)
theorem la_d377 : decode xMlaw.2.1 377 = .ok (.iconst 1, 1) := dz_ok (by decide +kernel)
theorem la_d378 : decode xMlaw.2.1 378 = .ok (.iadd, 1) := dz_ok (by decide +kernel)
theorem la_d379 : decode xMlaw.2.1 379 = .ok (.iaload, 1) := dz_ok (by decide +kernel)
theorem la_d380 : decode xMlaw.2.1 380 = .ok (.aload_n 0, 1) := dz_ok (by decide +kernel)
theorem la_d381 : decode xMlaw.2.1 381 = .ok (.iload_n 3, 1) := dz_ok (by decide +kernel)
theorem la_d382 : decode xMlaw.2.1 382 = .ok (.iconst 2, 1) := dz_ok (by decide +kernel)
theorem la_d383 : decode xMlaw.2.1 383 = .ok (.iadd, 1) := dz_ok (by decide +kernel)
theorem la_d384 : decode xMlaw.2.1 384 = .ok (.iaload, 1) := dz_ok (by decide +kernel)
theorem la_d385 : decode xMlaw.2.1 385 = .ok (.ifCond .eq 7, 3) := dz_ok (by decide +kernel)
theorem la_d388 : decode xMlaw.2.1 388 = .ok (.iconst 1, 1) := dz_ok (by decide +kernel)
theorem la_d389 : decode xMlaw.2.1 389 = .ok (.goto 4, 3) := dz_ok (by decide +kernel)
theorem la_d392 : decode xMlaw.2.1 392 = .ok (.iconst 0, 1) := dz_ok (by decide +kernel)
theorem la_d393 : decode xMlaw.2.1 393 = .ok (.invokevirtual 32, 3) := dz_ok (by decide +kernel)
theorem la_d396 : decode xMlaw.2.1 396 = .ok (.pop, 1) := dz_ok (by decide +kernel)
theorem la_d397 : decode xMlaw.2.1 397 = .ok (.goto 1104, 3) := dz_ok (by decide +kernel)
theorem la_d400 : decode xMlaw.2.1 400 = .ok (.aload_n 1, 1) := dz_ok (by decide +kernel)
theorem la_d401 : decode xMlaw.2.1 401 = .ok (.aload_n 0, 1) := dz_ok (by decide +kernel)
theorem la_d402 : decode xMlaw.2.1 402 = .ok (.iload_n 3, 1) := dz_ok (by decide +kernel)
theorem la_d403 : decode xMlaw.2.1 403 = .ok (.iconst 1, 1) := dz_ok (by decide +kernel)
theorem la_d404 : decode xMlaw.2.1 404 = .ok (.iadd, 1) := dz_ok (by decide +kernel)
theorem la_d405 : decode xMlaw.2.1 405 = .ok (.iaload, 1) := dz_ok (by decide +kernel)
theorem la_d406 : decode xMlaw.2.1 406 = .ok (.aload_n 0, 1) := dz_ok (by decide +kernel)
theorem la_d407 : decode xMlaw.2.1 407 = .ok (.iload_n 3, 1) := dz_ok (by decide +kernel)
theorem la_d408 : decode xMlaw.2.1 408 = .ok (.iconst 2, 1) := dz_ok (by decide +kernel)
theorem la_d409 : decode xMlaw.2.1 409 = .ok (.iadd, 1) := dz_ok (by decide +kernel)
theorem la_d410 : decode xMlaw.2.1 410 = .ok (.iaload, 1) := dz_ok (by decide +kernel)
theorem la_d411 : decode xMlaw.2.1 411 = .ok (.invokevirtual 33, 3) := dz_ok (by decide +kernel)
theorem la_d414 : decode xMlaw.2.1 414 = .ok (.pop, 1) := dz_ok (by decide +kernel)
theorem la_d415 : decode xMlaw.2.1 415 = .ok (.aload_n 2, 1) := dz_ok (by decide +kernel)
theorem la_d416 : decode xMlaw.2.1 416 = .ok (.aload_n 0, 1) := dz_ok (by decide +kernel)
theorem la_d417 : decode xMlaw.2.1 417 = .ok (.iload_n 3, 1) := dz_ok (by decide +kernel)
theorem la_d418 : decode xMlaw.2.1 418 = .ok (.iconst 1, 1) := dz_ok (by decide +kernel)
theorem la_d419 : decode xMlaw.2.1 419 = .ok (.iadd, 1) := dz_ok (by decide +kernel)
theorem la_d420 : decode xMlaw.2.1 420 = .ok (.iaload, 1) := dz_ok (by decide +kernel)
theorem la_d421 : decode xMlaw.2.1 421 = .ok (.aload_n 0, 1) := dz_ok (by decide +kernel)
theorem la_d422 : decode xMlaw.2.1 422 = .ok (.iload_n 3, 1) := dz_ok (by decide +kernel)
theorem la_d423 : decode xMlaw.2.1 423 = .ok (.iconst 2, 1) := dz_ok (by decide +kernel)
theorem la_d424 : decode xMlaw.2.1 424 = .ok (.iadd, 1) := dz_ok (by decide +kernel)
theorem la_d425 : decode xMlaw.2.1 425 = .ok (.iaload, 1) := dz_ok (by decide +kernel)
theorem la_d426 : decode xMlaw.2.1 426 = .ok (.invokevirtual 36, 3) := dz_ok (by decide +kernel)
theorem la_d429 : decode xMlaw.2.1 429 = .ok (.pop, 1) := dz_ok (by decide +kernel)
theorem la_d430 : decode xMlaw.2.1 430 = .ok (.goto 1071, 3) := dz_ok (by decide +kernel)
theorem la_d433 : decode xMlaw.2.1 433 = .ok (.aload_n 1, 1) := dz_ok (by decide +kernel)
theorem la_d434 : decode xMlaw.2.1 434 = .ok (.aload_n 0, 1) := dz_ok (by decide +kernel)
theorem la_d435 : decode xMlaw.2.1 435 = .ok (.iload_n 3, 1) := dz_ok (by decide +kernel)
theorem la_d436 : decode xMlaw.2.1 436 = .ok (.iconst 1, 1) := dz_ok (by decide +kernel)
theorem la_d437 : decode xMlaw.2.1 437 = .ok (.iadd, 1) := dz_ok (by decide +kernel)
theorem la_d438 : decode xMlaw.2.1 438 = .ok (.iaload, 1) := dz_ok (by decide +kernel)
theorem la_d439 : decode xMlaw.2.1 439 = .ok (.invokevirtual 37, 3) := dz_ok (by decide +kernel)
theorem la_d442 : decode xMlaw.2.1 442 = .ok (.pop, 1) := dz_ok (by decide +kernel)
theorem la_d443 : decode xMlaw.2.1 443 = .ok (.aload_n 2, 1) := dz_ok (by decide +kernel)
theorem la_d444 : decode xMlaw.2.1 444 = .ok (.aload_n 0, 1) := dz_ok (by decide +kernel)
theorem la_d445 : decode xMlaw.2.1 445 = .ok (.iload_n 3, 1) := dz_ok (by decide +kernel)
theorem la_d446 : decode xMlaw.2.1 446 = .ok (.iconst 1, 1) := dz_ok (by decide +kernel)
theorem la_d447 : decode xMlaw.2.1 447 = .ok (.iadd, 1) := dz_ok (by decide +kernel)
theorem la_d448 : decode xMlaw.2.1 448 = .ok (.iaload, 1) := dz_ok (by decide +kernel)
theorem la_d449 : decode xMlaw.2.1 449 = .ok (.invokevirtual 41, 3) := dz_ok (by decide +kernel)
theorem la_d452 : decode xMlaw.2.1 452 = .ok (.pop, 1) := dz_ok (by decide +kernel)
theorem la_d453 : decode xMlaw.2.1 453 = .ok (.goto 1048, 3) := dz_ok (by decide +kernel)
theorem la_d456 : decode xMlaw.2.1 456 = .ok (.aload_n 1, 1) := dz_ok (by decide +kernel)
theorem la_d457 : decode xMlaw.2.1 457 = .ok (.aload_n 0, 1) := dz_ok (by decide +kernel)
theorem la_d458 : decode xMlaw.2.1 458 = .ok (.iload_n 3, 1) := dz_ok (by decide +kernel)
theorem la_d459 : decode xMlaw.2.1 459 = .ok (.iconst 1, 1) := dz_ok (by decide +kernel)
theorem la_d460 : decode xMlaw.2.1 460 = .ok (.iadd, 1) := dz_ok (by decide +kernel)
theorem la_d461 : decode xMlaw.2.1 461 = .ok (.iaload, 1) := dz_ok (by decide +kernel)
theorem la_d462 : decode xMlaw.2.1 462 = .ok (.aload_n 0, 1) := dz_ok (by decide +kernel)
theorem la_d463 : decode xMlaw.2.1 463 = .ok (.iload_n 3, 1) := dz_ok (by decide +kernel)
theorem la_d464 : decode xMlaw.2.1 464 = .ok (.iconst 2, 1) := dz_ok (by decide +kernel)
theorem la_d465 : decode xMlaw.2.1 465 = .ok (.iadd, 1) := dz_ok (by decide +kernel)
theorem la_d466 : decode xMlaw.2.1 466 = .ok (.iaload, 1) := dz_ok (by decide +kernel)
theorem la_d467 : decode xMlaw.2.1 467 = .ok (.invokevirtual 42, 3) := dz_ok (by decide +kernel)
theorem la_d470 : decode xMlaw.2.1 470 = .ok (.pop, 1) := dz_ok (by decide +kernel)
theorem la_d471 : decode xMlaw.2.1 471 = .ok (.aload_n 2, 1) := dz_ok (by decide +kernel)
theorem la_d472 : decode xMlaw.2.1 472 = .ok (.aload_n 0, 1) := dz_ok (by decide +kernel)
theorem la_d473 : decode xMlaw.2.1 473 = .ok (.iload_n 3, 1) := dz_ok (by decide +kernel)
theorem la_d474 : decode xMlaw.2.1 474 = .ok (.iconst 1, 1) := dz_ok (by decide +kernel)
theorem la_d475 : decode xMlaw.2.1 475 = .ok (.iadd, 1) := dz_ok (by decide +kernel)
theorem la_d476 : decode xMlaw.2.1 476 = .ok (.iaload, 1) := dz_ok (by decide +kernel)
theorem la_d477 : decode xMlaw.2.1 477 = .ok (.aload_n 0, 1) := dz_ok (by decide +kernel)
theorem la_d478 : decode xMlaw.2.1 478 = .ok (.iload_n 3, 1) := dz_ok (by decide +kernel)
theorem la_d479 : decode xMlaw.2.1 479 = .ok (.iconst 2, 1) := dz_ok (by decide +kernel)
theorem la_d480 : decode xMlaw.2.1 480 = .ok (.iadd, 1) := dz_ok (by decide +kernel)
theorem la_d481 : decode xMlaw.2.1 481 = .ok (.iaload, 1) := dz_ok (by decide +kernel)
theorem la_d482 : decode xMlaw.2.1 482 = .ok (.invokevirtual 45, 3) := dz_ok (by decide +kernel)
theorem la_d485 : decode xMlaw.2.1 485 = .ok (.pop, 1) := dz_ok (by decide +kernel)
theorem la_d486 : decode xMlaw.2.1 486 = .ok (.goto 1015, 3) := dz_ok (by decide +kernel)
theorem la_d489 : decode xMlaw.2.1 489 = .ok (.aload_n 1, 1) := dz_ok (by decide +kernel)
theorem la_d490 : decode xMlaw.2.1 490 = .ok (.aload_n 0, 1) := dz_ok (by decide +kernel)
theorem la_d491 : decode xMlaw.2.1 491 = .ok (.iload_n 3, 1) := dz_ok (by decide +kernel)
theorem la_d492 : decode xMlaw.2.1 492 = .ok (.iconst 1, 1) := dz_ok (by decide +kernel)
theorem la_d493 : decode xMlaw.2.1 493 = .ok (.iadd, 1) := dz_ok (by decide +kernel)
theorem la_d494 : decode xMlaw.2.1 494 = .ok (.iaload, 1) := dz_ok (by decide +kernel)
theorem la_d495 : decode xMlaw.2.1 495 = .ok (.aload_n 0, 1) := dz_ok (by decide +kernel)
theorem la_d496 : decode xMlaw.2.1 496 = .ok (.iload_n 3, 1) := dz_ok (by decide +kernel)
theorem la_d497 : decode xMlaw.2.1 497 = .ok (.iconst 2, 1) := dz_ok (by decide +kernel)
theorem la_d498 : decode xMlaw.2.1 498 = .ok (.iadd, 1) := dz_ok (by decide +kernel)
theorem la_d499 : decode xMlaw.2.1 499 = .ok (.iaload, 1) := dz_ok (by decide +kernel)
theorem la_d500 : decode xMlaw.2.1 500 = .ok (.aload_n 0, 1) := dz_ok (by decide +kernel)
theorem la_d501 : decode xMlaw.2.1 501 = .ok (.iload_n 3, 1) := dz_ok (by decide +kernel)
theorem la_d502 : decode xMlaw.2.1 502 = .ok (.iconst 3, 1) := dz_ok (by decide +kernel)
theorem la_d503 : decode xMlaw.2.1 503 = .ok (.iadd, 1) := dz_ok (by decide +kernel)
theorem la_d504 : decode xMlaw.2.1 504 = .ok (.iaload, 1) := dz_ok (by decide +kernel)
theorem la_d505 : decode xMlaw.2.1 505 = .ok (.invokevirtual 46, 3) := dz_ok (by decide +kernel)
theorem la_d508 : decode xMlaw.2.1 508 = .ok (.pop, 1) := dz_ok (by decide +kernel)
theorem la_d509 : decode xMlaw.2.1 509 = .ok (.aload_n 2, 1) := dz_ok (by decide +kernel)
theorem la_d510 : decode xMlaw.2.1 510 = .ok (.aload_n 0, 1) := dz_ok (by decide +kernel)
theorem la_d511 : decode xMlaw.2.1 511 = .ok (.iload_n 3, 1) := dz_ok (by decide +kernel)
theorem la_d512 : decode xMlaw.2.1 512 = .ok (.iconst 1, 1) := dz_ok (by decide +kernel)
theorem la_d513 : decode xMlaw.2.1 513 = .ok (.iadd, 1) := dz_ok (by decide +kernel)
theorem la_d514 : decode xMlaw.2.1 514 = .ok (.iaload, 1) := dz_ok (by decide +kernel)
theorem la_d515 : decode xMlaw.2.1 515 = .ok (.aload_n 0, 1) := dz_ok (by decide +kernel)
theorem la_d516 : decode xMlaw.2.1 516 = .ok (.iload_n 3, 1) := dz_ok (by decide +kernel)
theorem la_d517 : decode xMlaw.2.1 517 = .ok (.iconst 2, 1) := dz_ok (by decide +kernel)
theorem la_d518 : decode xMlaw.2.1 518 = .ok (.iadd, 1) := dz_ok (by decide +kernel)
theorem la_d519 : decode xMlaw.2.1 519 = .ok (.iaload, 1) := dz_ok (by decide +kernel)
theorem la_d520 : decode xMlaw.2.1 520 = .ok (.aload_n 0, 1) := dz_ok (by decide +kernel)
theorem la_d521 : decode xMlaw.2.1 521 = .ok (.iload_n 3, 1) := dz_ok (by decide +kernel)
theorem la_d522 : decode xMlaw.2.1 522 = .ok (.iconst 3, 1) := dz_ok (by decide +kernel)
theorem la_d523 : decode xMlaw.2.1 523 = .ok (.iadd, 1) := dz_ok (by decide +kernel)
theorem la_d524 : decode xMlaw.2.1 524 = .ok (.iaload, 1) := dz_ok (by decide +kernel)
theorem la_d525 : decode xMlaw.2.1 525 = .ok (.invokevirtual 49, 3) := dz_ok (by decide +kernel)
theorem la_d528 : decode xMlaw.2.1 528 = .ok (.pop, 1) := dz_ok (by decide +kernel)
theorem la_d529 : decode xMlaw.2.1 529 = .ok (.goto 972, 3) := dz_ok (by decide +kernel)
theorem la_d532 : decode xMlaw.2.1 532 = .ok (.aload_n 1, 1) := dz_ok (by decide +kernel)
theorem la_d533 : decode xMlaw.2.1 533 = .ok (.aload_n 0, 1) := dz_ok (by decide +kernel)
theorem la_d534 : decode xMlaw.2.1 534 = .ok (.iload_n 3, 1) := dz_ok (by decide +kernel)
theorem la_d535 : decode xMlaw.2.1 535 = .ok (.iconst 1, 1) := dz_ok (by decide +kernel)
theorem la_d536 : decode xMlaw.2.1 536 = .ok (.iadd, 1) := dz_ok (by decide +kernel)
theorem la_d537 : decode xMlaw.2.1 537 = .ok (.iaload, 1) := dz_ok (by decide +kernel)
theorem la_d538 : decode xMlaw.2.1 538 = .ok (.i2l, 1) := dz_ok (by decide +kernel)
theorem la_d539 : decode xMlaw.2.1 539 = .ok (.bipush 32, 2) := dz_ok (by decide +kernel)
theorem la_d541 : decode xMlaw.2.1 541 = .ok (.lshl, 1) := dz_ok (by decide +kernel)
theorem la_d542 : decode xMlaw.2.1 542 = .ok (.aload_n 0, 1) := dz_ok (by decide +kernel)
theorem la_d543 : decode xMlaw.2.1 543 = .ok (.iload_n 3, 1) := dz_ok (by decide +kernel)
theorem la_d544 : decode xMlaw.2.1 544 = .ok (.iconst 2, 1) := dz_ok (by decide +kernel)
theorem la_d545 : decode xMlaw.2.1 545 = .ok (.iadd, 1) := dz_ok (by decide +kernel)
theorem la_d546 : decode xMlaw.2.1 546 = .ok (.iaload, 1) := dz_ok (by decide +kernel)
theorem la_d547 : decode xMlaw.2.1 547 = .ok (.i2l, 1) := dz_ok (by decide +kernel)
theorem la_d548 : decode xMlaw.2.1 548 = .ok (.ldc2_w 50, 3) := dz_ok (by decide +kernel)
theorem la_d551 : decode xMlaw.2.1 551 = .ok (.land, 1) := dz_ok (by decide +kernel)
theorem la_d552 : decode xMlaw.2.1 552 = .ok (.lor, 1) := dz_ok (by decide +kernel)
theorem la_d553 : decode xMlaw.2.1 553 = .ok (.aload_n 0, 1) := dz_ok (by decide +kernel)
theorem la_d554 : decode xMlaw.2.1 554 = .ok (.iload_n 3, 1) := dz_ok (by decide +kernel)
theorem la_d555 : decode xMlaw.2.1 555 = .ok (.iconst 3, 1) := dz_ok (by decide +kernel)
theorem la_d556 : decode xMlaw.2.1 556 = .ok (.iadd, 1) := dz_ok (by decide +kernel)
theorem la_d557 : decode xMlaw.2.1 557 = .ok (.iaload, 1) := dz_ok (by decide +kernel)
theorem la_d558 : decode xMlaw.2.1 558 = .ok (.invokevirtual 52, 3) := dz_ok (by decide +kernel)
theorem la_d561 : decode xMlaw.2.1 561 = .ok (.pop, 1) := dz_ok (by decide +kernel)
theorem la_d562 : decode xMlaw.2.1 562 = .ok (.aload_n 2, 1) := dz_ok (by decide +kernel)
theorem la_d563 : decode xMlaw.2.1 563 = .ok (.aload_n 0, 1) := dz_ok (by decide +kernel)
theorem la_d564 : decode xMlaw.2.1 564 = .ok (.iload_n 3, 1) := dz_ok (by decide +kernel)
theorem la_d565 : decode xMlaw.2.1 565 = .ok (.iconst 1, 1) := dz_ok (by decide +kernel)
theorem la_d566 : decode xMlaw.2.1 566 = .ok (.iadd, 1) := dz_ok (by decide +kernel)
theorem la_d567 : decode xMlaw.2.1 567 = .ok (.iaload, 1) := dz_ok (by decide +kernel)
theorem la_d568 : decode xMlaw.2.1 568 = .ok (.i2l, 1) := dz_ok (by decide +kernel)
theorem la_d569 : decode xMlaw.2.1 569 = .ok (.bipush 32, 2) := dz_ok (by decide +kernel)
theorem la_d571 : decode xMlaw.2.1 571 = .ok (.lshl, 1) := dz_ok (by decide +kernel)
theorem la_d572 : decode xMlaw.2.1 572 = .ok (.aload_n 0, 1) := dz_ok (by decide +kernel)
theorem la_d573 : decode xMlaw.2.1 573 = .ok (.iload_n 3, 1) := dz_ok (by decide +kernel)
theorem la_d574 : decode xMlaw.2.1 574 = .ok (.iconst 2, 1) := dz_ok (by decide +kernel)
theorem la_d575 : decode xMlaw.2.1 575 = .ok (.iadd, 1) := dz_ok (by decide +kernel)
theorem la_d576 : decode xMlaw.2.1 576 = .ok (.iaload, 1) := dz_ok (by decide +kernel)
theorem la_d577 : decode xMlaw.2.1 577 = .ok (.i2l, 1) := dz_ok (by decide +kernel)
theorem la_d578 : decode xMlaw.2.1 578 = .ok (.ldc2_w 50, 3) := dz_ok (by decide +kernel)
theorem la_d581 : decode xMlaw.2.1 581 = .ok (.land, 1) := dz_ok (by decide +kernel)
theorem la_d582 : decode xMlaw.2.1 582 = .ok (.lor, 1) := dz_ok (by decide +kernel)
theorem la_d583 : decode xMlaw.2.1 583 = .ok (.aload_n 0, 1) := dz_ok (by decide +kernel)
theorem la_d584 : decode xMlaw.2.1 584 = .ok (.iload_n 3, 1) := dz_ok (by decide +kernel)
theorem la_d585 : decode xMlaw.2.1 585 = .ok (.iconst 3, 1) := dz_ok (by decide +kernel)
theorem la_d586 : decode xMlaw.2.1 586 = .ok (.iadd, 1) := dz_ok (by decide +kernel)
theorem la_d587 : decode xMlaw.2.1 587 = .ok (.iaload, 1) := dz_ok (by decide +kernel)
theorem la_d588 : decode xMlaw.2.1 588 = .ok (.invokevirtual 56, 3) := dz_ok (by decide +kernel)
theorem la_d591 : decode xMlaw.2.1 591 = .ok (.pop, 1) := dz_ok (by decide +kernel)
theorem la_d592 : decode xMlaw.2.1 592 = .ok (.goto 909, 3) := dz_ok (by decide +kernel)
theorem la_d595 : decode xMlaw.2.1 595 = .ok (.aload_n 1, 1) := dz_ok (by decide +kernel)
theorem la_d596 : decode xMlaw.2.1 596 = .ok (.invokevirtual 57, 3) := dz_ok (by decide +kernel)
theorem la_d599 : decode xMlaw.2.1 599 = .ok (.pop, 1) := dz_ok (by decide +kernel)
theorem la_d600 : decode xMlaw.2.1 600 = .ok (.aload_n 2, 1) := dz_ok (by decide +kernel)
theorem la_d601 : decode xMlaw.2.1 601 = .ok (.invokevirtual 61, 3) := dz_ok (by decide +kernel)
theorem la_d604 : decode xMlaw.2.1 604 = .ok (.pop, 1) := dz_ok (by decide +kernel)
theorem la_d605 : decode xMlaw.2.1 605 = .ok (.goto 896, 3) := dz_ok (by decide +kernel)
theorem la_d608 : decode xMlaw.2.1 608 = .ok (.aload_n 1, 1) := dz_ok (by decide +kernel)
theorem la_d609 : decode xMlaw.2.1 609 = .ok (.invokevirtual 62, 3) := dz_ok (by decide +kernel)
theorem la_d612 : decode xMlaw.2.1 612 = .ok (.pop, 1) := dz_ok (by decide +kernel)
theorem la_d613 : decode xMlaw.2.1 613 = .ok (.aload_n 2, 1) := dz_ok (by decide +kernel)
theorem la_d614 : decode xMlaw.2.1 614 = .ok (.invokevirtual 65, 3) := dz_ok (by decide +kernel)
theorem la_d617 : decode xMlaw.2.1 617 = .ok (.pop, 1) := dz_ok (by decide +kernel)
theorem la_d618 : decode xMlaw.2.1 618 = .ok (.goto 883, 3) := dz_ok (by decide +kernel)
theorem la_d621 : decode xMlaw.2.1 621 = .ok (.aload_n 1, 1) := dz_ok (by decide +kernel)
theorem la_d622 : decode xMlaw.2.1 622 = .ok (.aload_n 0, 1) := dz_ok (by decide +kernel)
theorem la_d623 : decode xMlaw.2.1 623 = .ok (.iload_n 3, 1) := dz_ok (by decide +kernel)
theorem la_d624 : decode xMlaw.2.1 624 = .ok (.iconst 1, 1) := dz_ok (by decide +kernel)
theorem la_d625 : decode xMlaw.2.1 625 = .ok (.iadd, 1) := dz_ok (by decide +kernel)
theorem la_d626 : decode xMlaw.2.1 626 = .ok (.iaload, 1) := dz_ok (by decide +kernel)
theorem la_d627 : decode xMlaw.2.1 627 = .ok (.aload_n 0, 1) := dz_ok (by decide +kernel)
theorem la_d628 : decode xMlaw.2.1 628 = .ok (.iload_n 3, 1) := dz_ok (by decide +kernel)
theorem la_d629 : decode xMlaw.2.1 629 = .ok (.iconst 2, 1) := dz_ok (by decide +kernel)
theorem la_d630 : decode xMlaw.2.1 630 = .ok (.iadd, 1) := dz_ok (by decide +kernel)
theorem la_d631 : decode xMlaw.2.1 631 = .ok (.iaload, 1) := dz_ok (by decide +kernel)
theorem la_d632 : decode xMlaw.2.1 632 = .ok (.invokevirtual 66, 3) := dz_ok (by decide +kernel)
theorem la_d635 : decode xMlaw.2.1 635 = .ok (.pop, 1) := dz_ok (by decide +kernel)
theorem la_d636 : decode xMlaw.2.1 636 = .ok (.aload_n 2, 1) := dz_ok (by decide +kernel)
theorem la_d637 : decode xMlaw.2.1 637 = .ok (.aload_n 0, 1) := dz_ok (by decide +kernel)
theorem la_d638 : decode xMlaw.2.1 638 = .ok (.iload_n 3, 1) := dz_ok (by decide +kernel)
theorem la_d639 : decode xMlaw.2.1 639 = .ok (.iconst 1, 1) := dz_ok (by decide +kernel)
theorem la_d640 : decode xMlaw.2.1 640 = .ok (.iadd, 1) := dz_ok (by decide +kernel)
theorem la_d641 : decode xMlaw.2.1 641 = .ok (.iaload, 1) := dz_ok (by decide +kernel)
theorem la_d642 : decode xMlaw.2.1 642 = .ok (.aload_n 0, 1) := dz_ok (by decide +kernel)
theorem la_d643 : decode xMlaw.2.1 643 = .ok (.iload_n 3, 1) := dz_ok (by decide +kernel)
theorem la_d644 : decode xMlaw.2.1 644 = .ok (.iconst 2, 1) := dz_ok (by decide +kernel)
theorem la_d645 : decode xMlaw.2.1 645 = .ok (.iadd, 1) := dz_ok (by decide +kernel)
theorem la_d646 : decode xMlaw.2.1 646 = .ok (.iaload, 1) := dz_ok (by decide +kernel)
theorem la_d647 : decode xMlaw.2.1 647 = .ok (.invokevirtual 69, 3) := dz_ok (by decide +kernel)
theorem la_d650 : decode xMlaw.2.1 650 = .ok (.pop, 1) := dz_ok (by decide +kernel)
theorem la_d651 : decode xMlaw.2.1 651 = .ok (.goto 850, 3) := dz_ok (by decide +kernel)
theorem la_d654 : decode xMlaw.2.1 654 = .ok (.aload_n 1, 1) := dz_ok (by decide +kernel)
theorem la_d655 : decode xMlaw.2.1 655 = .ok (.aload_n 0, 1) := dz_ok (by decide +kernel)
theorem la_d656 : decode xMlaw.2.1 656 = .ok (.iload_n 3, 1) := dz_ok (by decide +kernel)
theorem la_d657 : decode xMlaw.2.1 657 = .ok (.iconst 1, 1) := dz_ok (by decide +kernel)
theorem la_d658 : decode xMlaw.2.1 658 = .ok (.iadd, 1) := dz_ok (by decide +kernel)
theorem la_d659 : decode xMlaw.2.1 659 = .ok (.iaload, 1) := dz_ok (by decide +kernel)
theorem la_d660 : decode xMlaw.2.1 660 = .ok (.aload_n 0, 1) := dz_ok (by decide +kernel)
theorem la_d661 : decode xMlaw.2.1 661 = .ok (.iload_n 3, 1) := dz_ok (by decide +kernel)
theorem la_d662 : decode xMlaw.2.1 662 = .ok (.iconst 2, 1) := dz_ok (by decide +kernel)
theorem la_d663 : decode xMlaw.2.1 663 = .ok (.iadd, 1) := dz_ok (by decide +kernel)
theorem la_d664 : decode xMlaw.2.1 664 = .ok (.iaload, 1) := dz_ok (by decide +kernel)
theorem la_d665 : decode xMlaw.2.1 665 = .ok (.invokevirtual 70, 3) := dz_ok (by decide +kernel)
theorem la_d668 : decode xMlaw.2.1 668 = .ok (.pop, 1) := dz_ok (by decide +kernel)
theorem la_d669 : decode xMlaw.2.1 669 = .ok (.aload_n 2, 1) := dz_ok (by decide +kernel)
theorem la_d670 : decode xMlaw.2.1 670 = .ok (.aload_n 0, 1) := dz_ok (by decide +kernel)
theorem la_d671 : decode xMlaw.2.1 671 = .ok (.iload_n 3, 1) := dz_ok (by decide +kernel)
theorem la_d672 : decode xMlaw.2.1 672 = .ok (.iconst 1, 1) := dz_ok (by decide +kernel)
theorem la_d673 : decode xMlaw.2.1 673 = .ok (.iadd, 1) := dz_ok (by decide +kernel)
theorem la_d674 : decode xMlaw.2.1 674 = .ok (.iaload, 1) := dz_ok (by decide +kernel)
theorem la_d675 : decode xMlaw.2.1 675 = .ok (.aload_n 0, 1) := dz_ok (by decide +kernel)
theorem la_d676 : decode xMlaw.2.1 676 = .ok (.iload_n 3, 1) := dz_ok (by decide +kernel)
theorem la_d677 : decode xMlaw.2.1 677 = .ok (.iconst 2, 1) := dz_ok (by decide +kernel)
theorem la_d678 : decode xMlaw.2.1 678 = .ok (.iadd, 1) := dz_ok (by decide +kernel)
theorem la_d679 : decode xMlaw.2.1 679 = .ok (.iaload, 1) := dz_ok (by decide +kernel)
theorem la_d680 : decode xMlaw.2.1 680 = .ok (.invokevirtual 73, 3) := dz_ok (by decide +kernel)
theorem la_d683 : decode xMlaw.2.1 683 = .ok (.pop, 1) := dz_ok (by decide +kernel)
theorem la_d684 : decode xMlaw.2.1 684 = .ok (.goto 817, 3) := dz_ok (by decide +kernel)
theorem la_d687 : decode xMlaw.2.1 687 = .ok (.aload_n 1, 1) := dz_ok (by decide +kernel)
theorem la_d688 : decode xMlaw.2.1 688 = .ok (.aload_n 0, 1) := dz_ok (by decide +kernel)
theorem la_d689 : decode xMlaw.2.1 689 = .ok (.iload_n 3, 1) := dz_ok (by decide +kernel)
theorem la_d690 : decode xMlaw.2.1 690 = .ok (.iconst 1, 1) := dz_ok (by decide +kernel)
theorem la_d691 : decode xMlaw.2.1 691 = .ok (.iadd, 1) := dz_ok (by decide +kernel)
theorem la_d692 : decode xMlaw.2.1 692 = .ok (.iaload, 1) := dz_ok (by decide +kernel)
theorem la_d693 : decode xMlaw.2.1 693 = .ok (.aload_n 0, 1) := dz_ok (by decide +kernel)
theorem la_d694 : decode xMlaw.2.1 694 = .ok (.iload_n 3, 1) := dz_ok (by decide +kernel)
theorem la_d695 : decode xMlaw.2.1 695 = .ok (.iconst 2, 1) := dz_ok (by decide +kernel)
theorem la_d696 : decode xMlaw.2.1 696 = .ok (.iadd, 1) := dz_ok (by decide +kernel)
theorem la_d697 : decode xMlaw.2.1 697 = .ok (.iaload, 1) := dz_ok (by decide +kernel)
theorem la_d698 : decode xMlaw.2.1 698 = .ok (.invokevirtual 74, 3) := dz_ok (by decide +kernel)
theorem la_d701 : decode xMlaw.2.1 701 = .ok (.pop, 1) := dz_ok (by decide +kernel)
theorem la_d702 : decode xMlaw.2.1 702 = .ok (.aload_n 2, 1) := dz_ok (by decide +kernel)
theorem la_d703 : decode xMlaw.2.1 703 = .ok (.aload_n 0, 1) := dz_ok (by decide +kernel)
theorem la_d704 : decode xMlaw.2.1 704 = .ok (.iload_n 3, 1) := dz_ok (by decide +kernel)
theorem la_d705 : decode xMlaw.2.1 705 = .ok (.iconst 1, 1) := dz_ok (by decide +kernel)
theorem la_d706 : decode xMlaw.2.1 706 = .ok (.iadd, 1) := dz_ok (by decide +kernel)
theorem la_d707 : decode xMlaw.2.1 707 = .ok (.iaload, 1) := dz_ok (by decide +kernel)
theorem la_d708 : decode xMlaw.2.1 708 = .ok (.aload_n 0, 1) := dz_ok (by decide +kernel)
theorem la_d709 : decode xMlaw.2.1 709 = .ok (.iload_n 3, 1) := dz_ok (by decide +kernel)
theorem la_d710 : decode xMlaw.2.1 710 = .ok (.iconst 2, 1) := dz_ok (by decide +kernel)
theorem la_d711 : decode xMlaw.2.1 711 = .ok (.iadd, 1) := dz_ok (by decide +kernel)
theorem la_d712 : decode xMlaw.2.1 712 = .ok (.iaload, 1) := dz_ok (by decide +kernel)
theorem la_d713 : decode xMlaw.2.1 713 = .ok (.invokevirtual 77, 3) := dz_ok (by decide +kernel)
theorem la_d716 : decode xMlaw.2.1 716 = .ok (.pop, 1) := dz_ok (by decide +kernel)
theorem la_d717 : decode xMlaw.2.1 717 = .ok (.goto 784, 3) := dz_ok (by decide +kernel)
theorem la_d720 : decode xMlaw.2.1 720 = .ok (.aload_n 1, 1) := dz_ok (by decide +kernel)
theorem la_d721 : decode xMlaw.2.1 721 = .ok (.aload_n 0, 1) := dz_ok (by decide +kernel)
theorem la_d722 : decode xMlaw.2.1 722 = .ok (.iload_n 3, 1) := dz_ok (by decide +kernel)
theorem la_d723 : decode xMlaw.2.1 723 = .ok (.iconst 1, 1) := dz_ok (by decide +kernel)
theorem la_d724 : decode xMlaw.2.1 724 = .ok (.iadd, 1) := dz_ok (by decide +kernel)
theorem la_d725 : decode xMlaw.2.1 725 = .ok (.iaload, 1) := dz_ok (by decide +kernel)
theorem la_d726 : decode xMlaw.2.1 726 = .ok (.invokevirtual 78, 3) := dz_ok (by decide +kernel)
theorem la_d729 : decode xMlaw.2.1 729 = .ok (.pop, 1) := dz_ok (by decide +kernel)
theorem la_d730 : decode xMlaw.2.1 730 = .ok (.aload_n 2, 1) := dz_ok (by decide +kernel)
theorem la_d731 : decode xMlaw.2.1 731 = .ok (.aload_n 0, 1) := dz_ok (by decide +kernel)
theorem la_d732 : decode xMlaw.2.1 732 = .ok (.iload_n 3, 1) := dz_ok (by decide +kernel)
theorem la_d733 : decode xMlaw.2.1 733 = .ok (.iconst 1, 1) := dz_ok (by decide +kernel)
theorem la_d734 : decode xMlaw.2.1 734 = .ok (.iadd, 1) := dz_ok (by decide +kernel)
theorem la_d735 : decode xMlaw.2.1 735 = .ok (.iaload, 1) := dz_ok (by decide +kernel)
theorem la_d736 : decode xMlaw.2.1 736 = .ok (.invokevirtual 81, 3) := dz_ok (by decide +kernel)
theorem la_d739 : decode xMlaw.2.1 739 = .ok (.pop, 1) := dz_ok (by decide +kernel)
theorem la_d740 : decode xMlaw.2.1 740 = .ok (.goto 761, 3) := dz_ok (by decide +kernel)
theorem la_d743 : decode xMlaw.2.1 743 = .ok (.aload_n 1, 1) := dz_ok (by decide +kernel)
theorem la_d744 : decode xMlaw.2.1 744 = .ok (.aload_n 0, 1) := dz_ok (by decide +kernel)
theorem la_d745 : decode xMlaw.2.1 745 = .ok (.iload_n 3, 1) := dz_ok (by decide +kernel)
theorem la_d746 : decode xMlaw.2.1 746 = .ok (.iconst 1, 1) := dz_ok (by decide +kernel)
theorem la_d747 : decode xMlaw.2.1 747 = .ok (.iadd, 1) := dz_ok (by decide +kernel)
theorem la_d748 : decode xMlaw.2.1 748 = .ok (.iaload, 1) := dz_ok (by decide +kernel)
theorem la_d749 : decode xMlaw.2.1 749 = .ok (.invokevirtual 82, 3) := dz_ok (by decide +kernel)
theorem la_d752 : decode xMlaw.2.1 752 = .ok (.pop, 1) := dz_ok (by decide +kernel)
theorem la_d753 : decode xMlaw.2.1 753 = .ok (.aload_n 2, 1) := dz_ok (by decide +kernel)
theorem la_d754 : decode xMlaw.2.1 754 = .ok (.aload_n 0, 1) := dz_ok (by decide +kernel)
theorem la_d755 : decode xMlaw.2.1 755 = .ok (.iload_n 3, 1) := dz_ok (by decide +kernel)
theorem la_d756 : decode xMlaw.2.1 756 = .ok (.iconst 1, 1) := dz_ok (by decide +kernel)
theorem la_d757 : decode xMlaw.2.1 757 = .ok (.iadd, 1) := dz_ok (by decide +kernel)
theorem la_d758 : decode xMlaw.2.1 758 = .ok (.iaload, 1) := dz_ok (by decide +kernel)
theorem la_d759 : decode xMlaw.2.1 759 = .ok (.invokevirtual 85, 3) := dz_ok (by decide +kernel)
theorem la_d762 : decode xMlaw.2.1 762 = .ok (.pop, 1) := dz_ok (by decide +kernel)
theorem la_d763 : decode xMlaw.2.1 763 = .ok (.goto 738, 3) := dz_ok (by decide +kernel)
theorem la_d766 : decode xMlaw.2.1 766 = .ok (.aload_n 1, 1) := dz_ok (by decide +kernel)
theorem la_d767 : decode xMlaw.2.1 767 = .ok (.aload_n 0, 1) := dz_ok (by decide +kernel)
theorem la_d768 : decode xMlaw.2.1 768 = .ok (.iload_n 3, 1) := dz_ok (by decide +kernel)
theorem la_d769 : decode xMlaw.2.1 769 = .ok (.iconst 1, 1) := dz_ok (by decide +kernel)
theorem la_d770 : decode xMlaw.2.1 770 = .ok (.iadd, 1) := dz_ok (by decide +kernel)
theorem la_d771 : decode xMlaw.2.1 771 = .ok (.iaload, 1) := dz_ok (by decide +kernel)
theorem la_d772 : decode xMlaw.2.1 772 = .ok (.aload_n 0, 1) := dz_ok (by decide +kernel)
theorem la_d773 : decode xMlaw.2.1 773 = .ok (.iload_n 3, 1) := dz_ok (by decide +kernel)
theorem la_d774 : decode xMlaw.2.1 774 = .ok (.iconst 2, 1) := dz_ok (by decide +kernel)
theorem la_d775 : decode xMlaw.2.1 775 = .ok (.iadd, 1) := dz_ok (by decide +kernel)
theorem la_d776 : decode xMlaw.2.1 776 = .ok (.iaload, 1) := dz_ok (by decide +kernel)
theorem la_d777 : decode xMlaw.2.1 777 = .ok (.invokevirtual 86, 3) := dz_ok (by decide +kernel)
theorem la_d780 : decode xMlaw.2.1 780 = .ok (.pop, 1) := dz_ok (by decide +kernel)
theorem la_d781 : decode xMlaw.2.1 781 = .ok (.aload_n 2, 1) := dz_ok (by decide +kernel)
theorem la_d782 : decode xMlaw.2.1 782 = .ok (.aload_n 0, 1) := dz_ok (by decide +kernel)
theorem la_d783 : decode xMlaw.2.1 783 = .ok (.iload_n 3, 1) := dz_ok (by decide +kernel)
theorem la_d784 : decode xMlaw.2.1 784 = .ok (.iconst 1, 1) := dz_ok (by decide +kernel)
theorem la_d785 : decode xMlaw.2.1 785 = .ok (.iadd, 1) := dz_ok (by decide +kernel)
theorem la_d786 : decode xMlaw.2.1 786 = .ok (.iaload, 1) := dz_ok (by decide +kernel)
theorem la_d787 : decode xMlaw.2.1 787 = .ok (.aload_n 0, 1) := dz_ok (by decide +kernel)
theorem la_d788 : decode xMlaw.2.1 788 = .ok (.iload_n 3, 1) := dz_ok (by decide +kernel)
theorem la_d789 : decode xMlaw.2.1 789 = .ok (.iconst 2, 1) := dz_ok (by decide +kernel)
theorem la_d790 : decode xMlaw.2.1 790 = .ok (.iadd, 1) := dz_ok (by decide +kernel)
theorem la_d791 : decode xMlaw.2.1 791 = .ok (.iaload, 1) := dz_ok (by decide +kernel)
theorem la_d792 : decode xMlaw.2.1 792 = .ok (.invokevirtual 89, 3) := dz_ok (by decide +kernel)
theorem la_d795 : decode xMlaw.2.1 795 = .ok (.pop, 1) := dz_ok (by decide +kernel)
theorem la_d796 : decode xMlaw.2.1 796 = .ok (.goto 705, 3) := dz_ok (by decide +kernel)
theorem la_d799 : decode xMlaw.2.1 799 = .ok (.aload_n 1, 1) := dz_ok (by decide +kernel)
theorem la_d800 : decode xMlaw.2.1 800 = .ok (.aload_n 0, 1) := dz_ok (by decide +kernel)
theorem la_d801 : decode xMlaw.2.1 801 = .ok (.iload_n 3, 1) := dz_ok (by decide +kernel)
theorem la_d802 : decode xMlaw.2.1 802 = .ok (.iconst 1, 1) := dz_ok (by decide +kernel)
theorem la_d803 : decode xMlaw.2.1 803 = .ok (.iadd, 1) := dz_ok (by decide +kernel)
theorem la_d804 : decode xMlaw.2.1 804 = .ok (.iaload, 1) := dz_ok (by decide +kernel)
theorem la_d805 : decode xMlaw.2.1 805 = .ok (.invokevirtual 90, 3) := dz_ok (by decide +kernel)
theorem la_d808 : decode xMlaw.2.1 808 = .ok (.pop, 1) := dz_ok (by decide +kernel)
theorem la_d809 : decode xMlaw.2.1 809 = .ok (.aload_n 2, 1) := dz_ok (by decide +kernel)
theorem la_d810 : decode xMlaw.2.1 810 = .ok (.aload_n 0, 1) := dz_ok (by decide +kernel)
theorem la_d811 : decode xMlaw.2.1 811 = .ok (.iload_n 3, 1) := dz_ok (by decide +kernel)
theorem la_d812 : decode xMlaw.2.1 812 = .ok (.iconst 1, 1) := dz_ok (by decide +kernel)
theorem la_d813 : decode xMlaw.2.1 813 = .ok (.iadd, 1) := dz_ok (by decide +kernel)
theorem la_d814 : decode xMlaw.2.1 814 = .ok (.iaload, 1) := dz_ok (by decide +kernel)
theorem la_d815 : decode xMlaw.2.1 815 = .ok (.invokevirtual 93, 3) := dz_ok (by decide +kernel)
theorem la_d818 : decode xMlaw.2.1 818 = .ok (.pop, 1) := dz_ok (by decide +kernel)
theorem la_d819 : decode xMlaw.2.1 819 = .ok (.goto 682, 3) := dz_ok (by decide +kernel)
theorem la_d822 : decode xMlaw.2.1 822 = .ok (.aload_n 1, 1) := dz_ok (by decide +kernel)
theorem la_d823 : decode xMlaw.2.1 823 = .ok (.aload_n 0, 1) := dz_ok (by decide +kernel)
theorem la_d824 : decode xMlaw.2.1 824 = .ok (.iload_n 3, 1) := dz_ok (by decide +kernel)
theorem la_d825 : decode xMlaw.2.1 825 = .ok (.iconst 1, 1) := dz_ok (by decide +kernel)
theorem la_d826 : decode xMlaw.2.1 826 = .ok (.iadd, 1) := dz_ok (by decide +kernel)
theorem la_d827 : decode xMlaw.2.1 827 = .ok (.iaload, 1) := dz_ok (by decide +kernel)
theorem la_d828 : decode xMlaw.2.1 828 = .ok (.aload_n 0, 1) := dz_ok (by decide +kernel)
theorem la_d829 : decode xMlaw.2.1 829 = .ok (.iload_n 3, 1) := dz_ok (by decide +kernel)
theorem la_d830 : decode xMlaw.2.1 830 = .ok (.iconst 2, 1) := dz_ok (by decide +kernel)
theorem la_d831 : decode xMlaw.2.1 831 = .ok (.iadd, 1) := dz_ok (by decide +kernel)
theorem la_d832 : decode xMlaw.2.1 832 = .ok (.iaload, 1) := dz_ok (by decide +kernel)
theorem la_d833 : decode xMlaw.2.1 833 = .ok (.invokevirtual 94, 3) := dz_ok (by decide +kernel)
theorem la_d836 : decode xMlaw.2.1 836 = .ok (.pop, 1) := dz_ok (by decide +kernel)
theorem la_d837 : decode xMlaw.2.1 837 = .ok (.aload_n 2, 1) := dz_ok (by decide +kernel)
theorem la_d838 : decode xMlaw.2.1 838 = .ok (.aload_n 0, 1) := dz_ok (by decide +kernel)
theorem la_d839 : decode xMlaw.2.1 839 = .ok (.iload_n 3, 1) := dz_ok (by decide +kernel)
theorem la_d840 : decode xMlaw.2.1 840 = .ok (.iconst 1, 1) := dz_ok (by decide +kernel)
theorem la_d841 : decode xMlaw.2.1 841 = .ok (.iadd, 1) := dz_ok (by decide +kernel)
theorem la_d842 : decode xMlaw.2.1 842 = .ok (.iaload, 1) := dz_ok (by decide +kernel)
theorem la_d843 : decode xMlaw.2.1 843 = .ok (.aload_n 0, 1) := dz_ok (by decide +kernel)
theorem la_d844 : decode xMlaw.2.1 844 = .ok (.iload_n 3, 1) := dz_ok (by decide +kernel)
theorem la_d845 : decode xMlaw.2.1 845 = .ok (.iconst 2, 1) := dz_ok (by decide +kernel)
theorem la_d846 : decode xMlaw.2.1 846 = .ok (.iadd, 1) := dz_ok (by decide +kernel)
theorem la_d847 : decode xMlaw.2.1 847 = .ok (.iaload, 1) := dz_ok (by decide +kernel)
theorem la_d848 : decode xMlaw.2.1 848 = .ok (.invokevirtual 97, 3) := dz_ok (by decide +kernel)
theorem la_d851 : decode xMlaw.2.1 851 = .ok (.pop, 1) := dz_ok (by decide +kernel)
theorem la_d852 : decode xMlaw.2.1 852 = .ok (.goto 649, 3) := dz_ok (by decide +kernel)
theorem la_d855 : decode xMlaw.2.1 855 = .ok (.aload_n 1, 1) := dz_ok (by decide +kernel)
theorem la_d856 : decode xMlaw.2.1 856 = .ok (.aload_n 0, 1) := dz_ok (by decide +kernel)
theorem la_d857 : decode xMlaw.2.1 857 = .ok (.iload_n 3, 1) := dz_ok (by decide +kernel)
theorem la_d858 : decode xMlaw.2.1 858 = .ok (.iconst 1, 1) := dz_ok (by decide +kernel)
theorem la_d859 : decode xMlaw.2.1 859 = .ok (.iadd, 1) := dz_ok (by decide +kernel)
theorem la_d860 : decode xMlaw.2.1 860 = .ok (.iaload, 1) := dz_ok (by decide +kernel)
theorem la_d861 : decode xMlaw.2.1 861 = .ok (.aload_n 0, 1) := dz_ok (by decide +kernel)
theorem la_d862 : decode xMlaw.2.1 862 = .ok (.iload_n 3, 1) := dz_ok (by decide +kernel)
theorem la_d863 : decode xMlaw.2.1 863 = .ok (.iconst 2, 1) := dz_ok (by decide +kernel)
theorem la_d864 : decode xMlaw.2.1 864 = .ok (.iadd, 1) := dz_ok (by decide +kernel)
theorem la_d865 : decode xMlaw.2.1 865 = .ok (.iaload, 1) := dz_ok (by decide +kernel)
theorem la_d866 : decode xMlaw.2.1 866 = .ok (.invokevirtual 98, 3) := dz_ok (by decide +kernel)
theorem la_d869 : decode xMlaw.2.1 869 = .ok (.pop, 1) := dz_ok (by decide +kernel)
theorem la_d870 : decode xMlaw.2.1 870 = .ok (.aload_n 2, 1) := dz_ok (by decide +kernel)
theorem la_d871 : decode xMlaw.2.1 871 = .ok (.aload_n 0, 1) := dz_ok (by decide +kernel)
theorem la_d872 : decode xMlaw.2.1 872 = .ok (.iload_n 3, 1) := dz_ok (by decide +kernel)
theorem la_d873 : decode xMlaw.2.1 873 = .ok (.iconst 1, 1) := dz_ok (by decide +kernel)
theorem la_d874 : decode xMlaw.2.1 874 = .ok (.iadd, 1) := dz_ok (by decide +kernel)
theorem la_d875 : decode xMlaw.2.1 875 = .ok (.iaload, 1) := dz_ok (by decide +kernel)
theorem la_d876 : decode xMlaw.2.1 876 = .ok (.aload_n 0, 1) := dz_ok (by decide +kernel)
theorem la_d877 : decode xMlaw.2.1 877 = .ok (.iload_n 3, 1) := dz_ok (by decide +kernel)
theorem la_d878 : decode xMlaw.2.1 878 = .ok (.iconst 2, 1) := dz_ok (by decide +kernel)
theorem la_d879 : decode xMlaw.2.1 879 = .ok (.iadd, 1) := dz_ok (by decide +kernel)
theorem la_d880 : decode xMlaw.2.1 880 = .ok (.iaload, 1) := dz_ok (by decide +kernel)
theorem la_d881 : decode xMlaw.2.1 881 = .ok (.invokevirtual 101, 3) := dz_ok (by decide +kernel)
theorem la_d884 : decode xMlaw.2.1 884 = .ok (.pop, 1) := dz_ok (by decide +kernel)
theorem la_d885 : decode xMlaw.2.1 885 = .ok (.goto 616, 3) := dz_ok (by decide +kernel)
theorem la_d888 : decode xMlaw.2.1 888 = .ok (.aload_n 1, 1) := dz_ok (by decide +kernel)
theorem la_d889 : decode xMlaw.2.1 889 = .ok (.aload_n 0, 1) := dz_ok (by decide +kernel)
theorem la_d890 : decode xMlaw.2.1 890 = .ok (.iload_n 3, 1) := dz_ok (by decide +kernel)
theorem la_d891 : decode xMlaw.2.1 891 = .ok (.iconst 1, 1) := dz_ok (by decide +kernel)
theorem la_d892 : decode xMlaw.2.1 892 = .ok (.iadd, 1) := dz_ok (by decide +kernel)
theorem la_d893 : decode xMlaw.2.1 893 = .ok (.iaload, 1) := dz_ok (by decide +kernel)
theorem la_d894 : decode xMlaw.2.1 894 = .ok (.invokevirtual 102, 3) := dz_ok (by decide +kernel)
theorem la_d897 : decode xMlaw.2.1 897 = .ok (.pop, 1) := dz_ok (by decide +kernel)
theorem la_d898 : decode xMlaw.2.1 898 = .ok (.aload_n 2, 1) := dz_ok (by decide +kernel)
theorem la_d899 : decode xMlaw.2.1 899 = .ok (.aload_n 0, 1) := dz_ok (by decide +kernel)
theorem la_d900 : decode xMlaw.2.1 900 = .ok (.iload_n 3, 1) := dz_ok (by decide +kernel)
theorem la_d901 : decode xMlaw.2.1 901 = .ok (.iconst 1, 1) := dz_ok (by decide +kernel)
theorem la_d902 : decode xMlaw.2.1 902 = .ok (.iadd, 1) := dz_ok (by decide +kernel)
theorem la_d903 : decode xMlaw.2.1 903 = .ok (.iaload, 1) := dz_ok (by decide +kernel)
theorem la_d904 : decode xMlaw.2.1 904 = .ok (.invokevirtual 105, 3) := dz_ok (by decide +kernel)
theorem la_d907 : decode xMlaw.2.1 907 = .ok (.pop, 1) := dz_ok (by decide +kernel)
theorem la_d908 : decode xMlaw.2.1 908 = .ok (.goto 593, 3) := dz_ok (by decide +kernel)
theorem la_d911 : decode xMlaw.2.1 911 = .ok (.aload_n 1, 1) := dz_ok (by decide +kernel)
theorem la_d912 : decode xMlaw.2.1 912 = .ok (.aload_n 0, 1) := dz_ok (by decide +kernel)
theorem la_d913 : decode xMlaw.2.1 913 = .ok (.iload_n 3, 1) := dz_ok (by decide +kernel)
theorem la_d914 : decode xMlaw.2.1 914 = .ok (.iconst 1, 1) := dz_ok (by decide +kernel)
theorem la_d915 : decode xMlaw.2.1 915 = .ok (.iadd, 1) := dz_ok (by decide +kernel)
theorem la_d916 : decode xMlaw.2.1 916 = .ok (.iaload, 1) := dz_ok (by decide +kernel)
theorem la_d917 : decode xMlaw.2.1 917 = .ok (.aload_n 0, 1) := dz_ok (by decide +kernel)
theorem la_d918 : decode xMlaw.2.1 918 = .ok (.iload_n 3, 1) := dz_ok (by decide +kernel)
theorem la_d919 : decode xMlaw.2.1 919 = .ok (.iconst 2, 1) := dz_ok (by decide +kernel)
theorem la_d920 : decode xMlaw.2.1 920 = .ok (.iadd, 1) := dz_ok (by decide +kernel)
theorem la_d921 : decode xMlaw.2.1 921 = .ok (.iaload, 1) := dz_ok (by decide +kernel)
theorem la_d922 : decode xMlaw.2.1 922 = .ok (.aload_n 0, 1) := dz_ok (by decide +kernel)
theorem la_d923 : decode xMlaw.2.1 923 = .ok (.iload_n 3, 1) := dz_ok (by decide +kernel)
theorem la_d924 : decode xMlaw.2.1 924 = .ok (.iconst 3, 1) := dz_ok (by decide +kernel)
theorem la_d925 : decode xMlaw.2.1 925 = .ok (.iadd, 1) := dz_ok (by decide +kernel)
theorem la_d926 : decode xMlaw.2.1 926 = .ok (.iaload, 1) := dz_ok (by decide +kernel)
theorem la_d927 : decode xMlaw.2.1 927 = .ok (.invokevirtual 106, 3) := dz_ok (by decide +kernel)
theorem la_d930 : decode xMlaw.2.1 930 = .ok (.pop, 1) := dz_ok (by decide +kernel)
theorem la_d931 : decode xMlaw.2.1 931 = .ok (.aload_n 2, 1) := dz_ok (by decide +kernel)
theorem la_d932 : decode xMlaw.2.1 932 = .ok (.aload_n 0, 1) := dz_ok (by decide +kernel)
theorem la_d933 : decode xMlaw.2.1 933 = .ok (.iload_n 3, 1) := dz_ok (by decide +kernel)
theorem la_d934 : decode xMlaw.2.1 934 = .ok (.iconst 1, 1) := dz_ok (by decide +kernel)
theorem la_d935 : decode xMlaw.2.1 935 = .ok (.iadd, 1) := dz_ok (by decide +kernel)
theorem la_d936 : decode xMlaw.2.1 936 = .ok (.iaload, 1) := dz_ok (by decide +kernel)
theorem la_d937 : decode xMlaw.2.1 937 = .ok (.aload_n 0, 1) := dz_ok (by decide +kernel)
theorem la_d938 : decode xMlaw.2.1 938 = .ok (.iload_n 3, 1) := dz_ok (by decide +kernel)
theorem la_d939 : decode xMlaw.2.1 939 = .ok (.iconst 2, 1) := dz_ok (by decide +kernel)
theorem la_d940 : decode xMlaw.2.1 940 = .ok (.iadd, 1) := dz_ok (by decide +kernel)
theorem la_d941 : decode xMlaw.2.1 941 = .ok (.iaload, 1) := dz_ok (by decide +kernel)
theorem la_d942 : decode xMlaw.2.1 942 = .ok (.aload_n 0, 1) := dz_ok (by decide +kernel)
theorem la_d943 : decode xMlaw.2.1 943 = .ok (.iload_n 3, 1) := dz_ok (by decide +kernel)
theorem la_d944 : decode xMlaw.2.1 944 = .ok (.iconst 3, 1) := dz_ok (by decide +kernel)
theorem la_d945 : decode xMlaw.2.1 945 = .ok (.iadd, 1) := dz_ok (by decide +kernel)
theorem la_d946 : decode xMlaw.2.1 946 = .ok (.iaload, 1) := dz_ok (by decide +kernel)
theorem la_d947 : decode xMlaw.2.1 947 = .ok (.invokevirtual 109, 3) := dz_ok (by decide +kernel)
theorem la_d950 : decode xMlaw.2.1 950 = .ok (.pop, 1) := dz_ok (by decide +kernel)
theorem la_d951 : decode xMlaw.2.1 951 = .ok (.goto 550, 3) := dz_ok (by decide +kernel)
theorem la_d954 : decode xMlaw.2.1 954 = .ok (.aload_n 1, 1) := dz_ok (by decide +kernel)
theorem la_d955 : decode xMlaw.2.1 955 = .ok (.aload_n 0, 1) := dz_ok (by decide +kernel)
theorem la_d956 : decode xMlaw.2.1 956 = .ok (.iload_n 3, 1) := dz_ok (by decide +kernel)
theorem la_d957 : decode xMlaw.2.1 957 = .ok (.iconst 1, 1) := dz_ok (by decide +kernel)
theorem la_d958 : decode xMlaw.2.1 958 = .ok (.iadd, 1) := dz_ok (by decide +kernel)
theorem la_d959 : decode xMlaw.2.1 959 = .ok (.iaload, 1) := dz_ok (by decide +kernel)
theorem la_d960 : decode xMlaw.2.1 960 = .ok (.aload_n 0, 1) := dz_ok (by decide +kernel)
theorem la_d961 : decode xMlaw.2.1 961 = .ok (.iload_n 3, 1) := dz_ok (by decide +kernel)
theorem la_d962 : decode xMlaw.2.1 962 = .ok (.iconst 2, 1) := dz_ok (by decide +kernel)
theorem la_d963 : decode xMlaw.2.1 963 = .ok (.iadd, 1) := dz_ok (by decide +kernel)
theorem la_d964 : decode xMlaw.2.1 964 = .ok (.iaload, 1) := dz_ok (by decide +kernel)
theorem la_d965 : decode xMlaw.2.1 965 = .ok (.invokevirtual 110, 3) := dz_ok (by decide +kernel)
theorem la_d968 : decode xMlaw.2.1 968 = .ok (.pop, 1) := dz_ok (by decide +kernel)
theorem la_d969 : decode xMlaw.2.1 969 = .ok (.aload_n 2, 1) := dz_ok (by decide +kernel)
theorem la_d970 : decode xMlaw.2.1 970 = .ok (.aload_n 0, 1) := dz_ok (by decide +kernel)
theorem la_d971 : decode xMlaw.2.1 971 = .ok (.iload_n 3, 1) := dz_ok (by decide +kernel)
theorem la_d972 : decode xMlaw.2.1 972 = .ok (.iconst 1, 1) := dz_ok (by decide +kernel)
theorem la_d973 : decode xMlaw.2.1 973 = .ok (.iadd, 1) := dz_ok (by decide +kernel)
theorem la_d974 : decode xMlaw.2.1 974 = .ok (.iaload, 1) := dz_ok (by decide +kernel)
theorem la_d975 : decode xMlaw.2.1 975 = .ok (.aload_n 0, 1) := dz_ok (by decide +kernel)
theorem la_d976 : decode xMlaw.2.1 976 = .ok (.iload_n 3, 1) := dz_ok (by decide +kernel)
theorem la_d977 : decode xMlaw.2.1 977 = .ok (.iconst 2, 1) := dz_ok (by decide +kernel)
theorem la_d978 : decode xMlaw.2.1 978 = .ok (.iadd, 1) := dz_ok (by decide +kernel)
theorem la_d979 : decode xMlaw.2.1 979 = .ok (.iaload, 1) := dz_ok (by decide +kernel)
theorem la_d980 : decode xMlaw.2.1 980 = .ok (.invokevirtual 113, 3) := dz_ok (by decide +kernel)
theorem la_d983 : decode xMlaw.2.1 983 = .ok (.pop, 1) := dz_ok (by decide +kernel)
theorem la_d984 : decode xMlaw.2.1 984 = .ok (.goto 517, 3) := dz_ok (by decide +kernel)
theorem la_d987 : decode xMlaw.2.1 987 = .ok (.aload_n 1, 1) := dz_ok (by decide +kernel)
theorem la_d988 : decode xMlaw.2.1 988 = .ok (.aload_n 0, 1) := dz_ok (by decide +kernel)
theorem la_d989 : decode xMlaw.2.1 989 = .ok (.iload_n 3, 1) := dz_ok (by decide +kernel)
theorem la_d990 : decode xMlaw.2.1 990 = .ok (.iconst 1, 1) := dz_ok (by decide +kernel)
theorem la_d991 : decode xMlaw.2.1 991 = .ok (.iadd, 1) := dz_ok (by decide +kernel)
theorem la_d992 : decode xMlaw.2.1 992 = .ok (.iaload, 1) := dz_ok (by decide +kernel)
theorem la_d993 : decode xMlaw.2.1 993 = .ok (.aload_n 0, 1) := dz_ok (by decide +kernel)
theorem la_d994 : decode xMlaw.2.1 994 = .ok (.iload_n 3, 1) := dz_ok (by decide +kernel)
theorem la_d995 : decode xMlaw.2.1 995 = .ok (.iconst 2, 1) := dz_ok (by decide +kernel)
theorem la_d996 : decode xMlaw.2.1 996 = .ok (.iadd, 1) := dz_ok (by decide +kernel)
theorem la_d997 : decode xMlaw.2.1 997 = .ok (.iaload, 1) := dz_ok (by decide +kernel)
theorem la_d998 : decode xMlaw.2.1 998 = .ok (.aload_n 0, 1) := dz_ok (by decide +kernel)
theorem la_d999 : decode xMlaw.2.1 999 = .ok (.iload_n 3, 1) := dz_ok (by decide +kernel)
theorem la_d1000 : decode xMlaw.2.1 1000 = .ok (.iconst 3, 1) := dz_ok (by decide +kernel)
theorem la_d1001 : decode xMlaw.2.1 1001 = .ok (.iadd, 1) := dz_ok (by decide +kernel)
theorem la_d1002 : decode xMlaw.2.1 1002 = .ok (.iaload, 1) := dz_ok (by decide +kernel)
theorem la_d1003 : decode xMlaw.2.1 1003 = .ok (.invokevirtual 114, 3) := dz_ok (by decide +kernel)
theorem la_d1006 : decode xMlaw.2.1 1006 = .ok (.pop, 1) := dz_ok (by decide +kernel)
theorem la_d1007 : decode xMlaw.2.1 1007 = .ok (.aload_n 2, 1) := dz_ok (by decide +kernel)
theorem la_d1008 : decode xMlaw.2.1 1008 = .ok (.aload_n 0, 1) := dz_ok (by decide +kernel)
theorem la_d1009 : decode xMlaw.2.1 1009 = .ok (.iload_n 3, 1) := dz_ok (by decide +kernel)
theorem la_d1010 : decode xMlaw.2.1 1010 = .ok (.iconst 1, 1) := dz_ok (by decide +kernel)
theorem la_d1011 : decode xMlaw.2.1 1011 = .ok (.iadd, 1) := dz_ok (by decide +kernel)
theorem la_d1012 : decode xMlaw.2.1 1012 = .ok (.iaload, 1) := dz_ok (by decide +kernel)
theorem la_d1013 : decode xMlaw.2.1 1013 = .ok (.aload_n 0, 1) := dz_ok (by decide +kernel)
theorem la_d1014 : decode xMlaw.2.1 1014 = .ok (.iload_n 3, 1) := dz_ok (by decide +kernel)
theorem la_d1015 : decode xMlaw.2.1 1015 = .ok (.iconst 2, 1) := dz_ok (by decide +kernel)
theorem la_d1016 : decode xMlaw.2.1 1016 = .ok (.iadd, 1) := dz_ok (by decide +kernel)
theorem la_d1017 : decode xMlaw.2.1 1017 = .ok (.iaload, 1) := dz_ok (by decide +kernel)
theorem la_d1018 : decode xMlaw.2.1 1018 = .ok (.aload_n 0, 1) := dz_ok (by decide +kernel)
theorem la_d1019 : decode xMlaw.2.1 1019 = .ok (.iload_n 3, 1) := dz_ok (by decide +kernel)
theorem la_d1020 : decode xMlaw.2.1 1020 = .ok (.iconst 3, 1) := dz_ok (by decide +kernel)
theorem la_d1021 : decode xMlaw.2.1 1021 = .ok (.iadd, 1) := dz_ok (by decide +kernel)
theorem la_d1022 : decode xMlaw.2.1 1022 = .ok (.iaload, 1) := dz_ok (by decide +kernel)
theorem la_d1023 : decode xMlaw.2.1 1023 = .ok (.invokevirtual 117, 3) := dz_ok (by decide +kernel)
theorem la_d1026 : decode xMlaw.2.1 1026 = .ok (.pop, 1) := dz_ok (by decide +kernel)
theorem la_d1027 : decode xMlaw.2.1 1027 = .ok (.goto 474, 3) := dz_ok (by decide +kernel)
theorem la_d1030 : decode xMlaw.2.1 1030 = .ok (.aload_n 1, 1) := dz_ok (by decide +kernel)
theorem la_d1031 : decode xMlaw.2.1 1031 = .ok (.aload_n 0, 1) := dz_ok (by decide +kernel)
theorem la_d1032 : decode xMlaw.2.1 1032 = .ok (.iload_n 3, 1) := dz_ok (by decide +kernel)
theorem la_d1033 : decode xMlaw.2.1 1033 = .ok (.iconst 1, 1) := dz_ok (by decide +kernel)
theorem la_d1034 : decode xMlaw.2.1 1034 = .ok (.iadd, 1) := dz_ok (by decide +kernel)
theorem la_d1035 : decode xMlaw.2.1 1035 = .ok (.iaload, 1) := dz_ok (by decide +kernel)
theorem la_d1036 : decode xMlaw.2.1 1036 = .ok (.aload_n 0, 1) := dz_ok (by decide +kernel)
theorem la_d1037 : decode xMlaw.2.1 1037 = .ok (.iload_n 3, 1) := dz_ok (by decide +kernel)
theorem la_d1038 : decode xMlaw.2.1 1038 = .ok (.iconst 2, 1) := dz_ok (by decide +kernel)
theorem la_d1039 : decode xMlaw.2.1 1039 = .ok (.iadd, 1) := dz_ok (by decide +kernel)
theorem la_d1040 : decode xMlaw.2.1 1040 = .ok (.iaload, 1) := dz_ok (by decide +kernel)
theorem la_d1041 : decode xMlaw.2.1 1041 = .ok (.aload_n 0, 1) := dz_ok (by decide +kernel)
theorem la_d1042 : decode xMlaw.2.1 1042 = .ok (.iload_n 3, 1) := dz_ok (by decide +kernel)
theorem la_d1043 : decode xMlaw.2.1 1043 = .ok (.iconst 3, 1) := dz_ok (by decide +kernel)
theorem la_d1044 : decode xMlaw.2.1 1044 = .ok (.iadd, 1) := dz_ok (by decide +kernel)
theorem la_d1045 : decode xMlaw.2.1 1045 = .ok (.iaload, 1) := dz_ok (by decide +kernel)
theorem la_d1046 : decode xMlaw.2.1 1046 = .ok (.invokevirtual 118, 3) := dz_ok (by decide +kernel)
theorem la_d1049 : decode xMlaw.2.1 1049 = .ok (.pop, 1) := dz_ok (by decide +kernel)
theorem la_d1050 : decode xMlaw.2.1 1050 = .ok (.aload_n 2, 1) := dz_ok (by decide +kernel)
theorem la_d1051 : decode xMlaw.2.1 1051 = .ok (.aload_n 0, 1) := dz_ok (by decide +kernel)
theorem la_d1052 : decode xMlaw.2.1 1052 = .ok (.iload_n 3, 1) := dz_ok (by decide +kernel)
theorem la_d1053 : decode xMlaw.2.1 1053 = .ok (.iconst 1, 1) := dz_ok (by decide +kernel)
theorem la_d1054 : decode xMlaw.2.1 1054 = .ok (.iadd, 1) := dz_ok (by decide +kernel)
theorem la_d1055 : decode xMlaw.2.1 1055 = .ok (.iaload, 1) := dz_ok (by decide +kernel)
theorem la_d1056 : decode xMlaw.2.1 1056 = .ok (.aload_n 0, 1) := dz_ok (by decide +kernel)
theorem la_d1057 : decode xMlaw.2.1 1057 = .ok (.iload_n 3, 1) := dz_ok (by decide +kernel)
theorem la_d1058 : decode xMlaw.2.1 1058 = .ok (.iconst 2, 1) := dz_ok (by decide +kernel)
theorem la_d1059 : decode xMlaw.2.1 1059 = .ok (.iadd, 1) := dz_ok (by decide +kernel)
theorem la_d1060 : decode xMlaw.2.1 1060 = .ok (.iaload, 1) := dz_ok (by decide +kernel)
theorem la_d1061 : decode xMlaw.2.1 1061 = .ok (.aload_n 0, 1) := dz_ok (by decide +kernel)
theorem la_d1062 : decode xMlaw.2.1 1062 = .ok (.iload_n 3, 1) := dz_ok (by decide +kernel)
theorem la_d1063 : decode xMlaw.2.1 1063 = .ok (.iconst 3, 1) := dz_ok (by decide +kernel)
theorem la_d1064 : decode xMlaw.2.1 1064 = .ok (.iadd, 1) := dz_ok (by decide +kernel)
theorem la_d1065 : decode xMlaw.2.1 1065 = .ok (.iaload, 1) := dz_ok (by decide +kernel)
theorem la_d1066 : decode xMlaw.2.1 1066 = .ok (.invokevirtual 121, 3) := dz_ok (by decide +kernel)
theorem la_d1069 : decode xMlaw.2.1 1069 = .ok (.pop, 1) := dz_ok (by decide +kernel)
theorem la_d1070 : decode xMlaw.2.1 1070 = .ok (.goto 431, 3) := dz_ok (by decide +kernel)
theorem la_d1073 : decode xMlaw.2.1 1073 = .ok (.aload_n 1, 1) := dz_ok (by decide +kernel)
theorem la_d1074 : decode xMlaw.2.1 1074 = .ok (.aload_n 0, 1) := dz_ok (by decide +kernel)
theorem la_d1075 : decode xMlaw.2.1 1075 = .ok (.iload_n 3, 1) := dz_ok (by decide +kernel)
theorem la_d1076 : decode xMlaw.2.1 1076 = .ok (.iconst 1, 1) := dz_ok (by decide +kernel)
theorem la_d1077 : decode xMlaw.2.1 1077 = .ok (.iadd, 1) := dz_ok (by decide +kernel)
theorem la_d1078 : decode xMlaw.2.1 1078 = .ok (.iaload, 1) := dz_ok (by decide +kernel)
theorem la_d1079 : decode xMlaw.2.1 1079 = .ok (.invokevirtual 122, 3) := dz_ok (by decide +kernel)
theorem la_d1082 : decode xMlaw.2.1 1082 = .ok (.pop, 1) := dz_ok (by decide +kernel)
theorem la_d1083 : decode xMlaw.2.1 1083 = .ok (.aload_n 2, 1) := dz_ok (by decide +kernel)
theorem la_d1084 : decode xMlaw.2.1 1084 = .ok (.aload_n 0, 1) := dz_ok (by decide +kernel)
theorem la_d1085 : decode xMlaw.2.1 1085 = .ok (.iload_n 3, 1) := dz_ok (by decide +kernel)
theorem la_d1086 : decode xMlaw.2.1 1086 = .ok (.iconst 1, 1) := dz_ok (by decide +kernel)
theorem la_d1087 : decode xMlaw.2.1 1087 = .ok (.iadd, 1) := dz_ok (by decide +kernel)
theorem la_d1088 : decode xMlaw.2.1 1088 = .ok (.iaload, 1) := dz_ok (by decide +kernel)
theorem la_d1089 : decode xMlaw.2.1 1089 = .ok (.invokevirtual 125, 3) := dz_ok (by decide +kernel)
theorem la_d1092 : decode xMlaw.2.1 1092 = .ok (.pop, 1) := dz_ok (by decide +kernel)
theorem la_d1093 : decode xMlaw.2.1 1093 = .ok (.goto 408, 3) := dz_ok (by decide +kernel)
theorem la_d1096 : decode xMlaw.2.1 1096 = .ok (.aload_n 1, 1) := dz_ok (by decide +kernel)
theorem la_d1097 : decode xMlaw.2.1 1097 = .ok (.invokevirtual 126, 3) := dz_ok (by decide +kernel)
theorem la_d1100 : decode xMlaw.2.1 1100 = .ok (.pop, 1) := dz_ok (by decide +kernel)
theorem la_d1101 : decode xMlaw.2.1 1101 = .ok (.aload_n 2, 1) := dz_ok (by decide +kernel)
theorem la_d1102 : decode xMlaw.2.1 1102 = .ok (.invokevirtual 129, 3) := dz_ok (by decide +kernel)
theorem la_d1105 : decode xMlaw.2.1 1105 = .ok (.pop, 1) := dz_ok (by decide +kernel)
theorem la_d1106 : decode xMlaw.2.1 1106 = .ok (.goto 395, 3) := dz_ok (by decide +kernel)
theorem la_d1109 : decode xMlaw.2.1 1109 = .ok (.aload_n 1, 1) := dz_ok (by decide +kernel)
theorem la_d1110 : decode xMlaw.2.1 1110 = .ok (.aload_n 0, 1) := dz_ok (by decide +kernel)
theorem la_d1111 : decode xMlaw.2.1 1111 = .ok (.iload_n 3, 1) := dz_ok (by decide +kernel)
theorem la_d1112 : decode xMlaw.2.1 1112 = .ok (.iconst 1, 1) := dz_ok (by decide +kernel)
theorem la_d1113 : decode xMlaw.2.1 1113 = .ok (.iadd, 1) := dz_ok (by decide +kernel)
theorem la_d1114 : decode xMlaw.2.1 1114 = .ok (.iaload, 1) := dz_ok (by decide +kernel)
theorem la_d1115 : decode xMlaw.2.1 1115 = .ok (.aload_n 0, 1) := dz_ok (by decide +kernel)
theorem la_d1116 : decode xMlaw.2.1 1116 = .ok (.iload_n 3, 1) := dz_ok (by decide +kernel)
theorem la_d1117 : decode xMlaw.2.1 1117 = .ok (.iconst 2, 1) := dz_ok (by decide +kernel)
theorem la_d1118 : decode xMlaw.2.1 1118 = .ok (.iadd, 1) := dz_ok (by decide +kernel)
theorem la_d1119 : decode xMlaw.2.1 1119 = .ok (.iaload, 1) := dz_ok (by decide +kernel)
theorem la_d1120 : decode xMlaw.2.1 1120 = .ok (.invokevirtual 130, 3) := dz_ok (by decide +kernel)
theorem la_d1123 : decode xMlaw.2.1 1123 = .ok (.pop, 1) := dz_ok (by decide +kernel)
theorem la_d1124 : decode xMlaw.2.1 1124 = .ok (.aload_n 2, 1) := dz_ok (by decide +kernel)
theorem la_d1125 : decode xMlaw.2.1 1125 = .ok (.aload_n 0, 1) := dz_ok (by decide +kernel)
theorem la_d1126 : decode xMlaw.2.1 1126 = .ok (.iload_n 3, 1) := dz_ok (by decide +kernel)
theorem la_d1127 : decode xMlaw.2.1 1127 = .ok (.iconst 1, 1) := dz_ok (by decide +kernel)
theorem la_d1128 : decode xMlaw.2.1 1128 = .ok (.iadd, 1) := dz_ok (by decide +kernel)
theorem la_d1129 : decode xMlaw.2.1 1129 = .ok (.iaload, 1) := dz_ok (by decide +kernel)
theorem la_d1130 : decode xMlaw.2.1 1130 = .ok (.aload_n 0, 1) := dz_ok (by decide +kernel)
theorem la_d1131 : decode xMlaw.2.1 1131 = .ok (.iload_n 3, 1) := dz_ok (by decide +kernel)
theorem la_d1132 : decode xMlaw.2.1 1132 = .ok (.iconst 2, 1) := dz_ok (by decide +kernel)
theorem la_d1133 : decode xMlaw.2.1 1133 = .ok (.iadd, 1) := dz_ok (by decide +kernel)
theorem la_d1134 : decode xMlaw.2.1 1134 = .ok (.iaload, 1) := dz_ok (by decide +kernel)
theorem la_d1135 : decode xMlaw.2.1 1135 = .ok (.invokevirtual 133, 3) := dz_ok (by decide +kernel)
theorem la_d1138 : decode xMlaw.2.1 1138 = .ok (.pop, 1) := dz_ok (by decide +kernel)
theorem la_d1139 : decode xMlaw.2.1 1139 = .ok (.goto 362, 3) := dz_ok (by decide +kernel)
theorem la_d1142 : decode xMlaw.2.1 1142 = .ok (.aload_n 1, 1) := dz_ok (by decide +kernel)
theorem la_d1143 : decode xMlaw.2.1 1143 = .ok (.aload_n 0, 1) := dz_ok (by decide +kernel)
theorem la_d1144 : decode xMlaw.2.1 1144 = .ok (.iload_n 3, 1) := dz_ok (by decide +kernel)
theorem la_d1145 : decode xMlaw.2.1 1145 = .ok (.iconst 1, 1) := dz_ok (by decide +kernel)
theorem la_d1146 : decode xMlaw.2.1 1146 = .ok (.iadd, 1) := dz_ok (by decide +kernel)
theorem la_d1147 : decode xMlaw.2.1 1147 = .ok (.iaload, 1) := dz_ok (by decide +kernel)
theorem la_d1148 : decode xMlaw.2.1 1148 = .ok (.aload_n 0, 1) := dz_ok (by decide +kernel)
theorem la_d1149 : decode xMlaw.2.1 1149 = .ok (.iload_n 3, 1) := dz_ok (by decide +kernel)
theorem la_d1150 : decode xMlaw.2.1 1150 = .ok (.iconst 2, 1) := dz_ok (by decide +kernel)
theorem la_d1151 : decode xMlaw.2.1 1151 = .ok (.iadd, 1) := dz_ok (by decide +kernel)
theorem la_d1152 : decode xMlaw.2.1 1152 = .ok (.iaload, 1) := dz_ok (by decide +kernel)
theorem la_d1153 : decode xMlaw.2.1 1153 = .ok (.invokevirtual 134, 3) := dz_ok (by decide +kernel)
theorem la_d1156 : decode xMlaw.2.1 1156 = .ok (.pop, 1) := dz_ok (by decide +kernel)
theorem la_d1157 : decode xMlaw.2.1 1157 = .ok (.aload_n 2, 1) := dz_ok (by decide +kernel)
theorem la_d1158 : decode xMlaw.2.1 1158 = .ok (.aload_n 0, 1) := dz_ok (by decide +kernel)
theorem la_d1159 : decode xMlaw.2.1 1159 = .ok (.iload_n 3, 1) := dz_ok (by decide +kernel)
theorem la_d1160 : decode xMlaw.2.1 1160 = .ok (.iconst 1, 1) := dz_ok (by decide +kernel)
theorem la_d1161 : decode xMlaw.2.1 1161 = .ok (.iadd, 1) := dz_ok (by decide +kernel)
theorem la_d1162 : decode xMlaw.2.1 1162 = .ok (.iaload, 1) := dz_ok (by decide +kernel)
theorem la_d1163 : decode xMlaw.2.1 1163 = .ok (.aload_n 0, 1) := dz_ok (by decide +kernel)
theorem la_d1164 : decode xMlaw.2.1 1164 = .ok (.iload_n 3, 1) := dz_ok (by decide +kernel)
theorem la_d1165 : decode xMlaw.2.1 1165 = .ok (.iconst 2, 1) := dz_ok (by decide +kernel)
theorem la_d1166 : decode xMlaw.2.1 1166 = .ok (.iadd, 1) := dz_ok (by decide +kernel)
theorem la_d1167 : decode xMlaw.2.1 1167 = .ok (.iaload, 1) := dz_ok (by decide +kernel)
theorem la_d1168 : decode xMlaw.2.1 1168 = .ok (.invokevirtual 137, 3) := dz_ok (by decide +kernel)
theorem la_d1171 : decode xMlaw.2.1 1171 = .ok (.pop, 1) := dz_ok (by decide +kernel)
theorem la_d1172 : decode xMlaw.2.1 1172 = .ok (.goto 329, 3) := dz_ok (by decide +kernel)
theorem la_d1175 : decode xMlaw.2.1 1175 = .ok (.aload_n 1, 1) := dz_ok (by decide +kernel)
theorem la_d1176 : decode xMlaw.2.1 1176 = .ok (.aload_n 0, 1) := dz_ok (by decide +kernel)
theorem la_d1177 : decode xMlaw.2.1 1177 = .ok (.iload_n 3, 1) := dz_ok (by decide +kernel)
theorem la_d1178 : decode xMlaw.2.1 1178 = .ok (.iconst 1, 1) := dz_ok (by decide +kernel)
theorem la_d1179 : decode xMlaw.2.1 1179 = .ok (.iadd, 1) := dz_ok (by decide +kernel)
theorem la_d1180 : decode xMlaw.2.1 1180 = .ok (.iaload, 1) := dz_ok (by decide +kernel)
theorem la_d1181 : decode xMlaw.2.1 1181 = .ok (.aload_n 0, 1) := dz_ok (by decide +kernel)
theorem la_d1182 : decode xMlaw.2.1 1182 = .ok (.iload_n 3, 1) := dz_ok (by decide +kernel)
theorem la_d1183 : decode xMlaw.2.1 1183 = .ok (.iconst 2, 1) := dz_ok (by decide +kernel)
theorem la_d1184 : decode xMlaw.2.1 1184 = .ok (.iadd, 1) := dz_ok (by decide +kernel)
theorem la_d1185 : decode xMlaw.2.1 1185 = .ok (.iaload, 1) := dz_ok (by decide +kernel)
theorem la_d1186 : decode xMlaw.2.1 1186 = .ok (.invokevirtual 138, 3) := dz_ok (by decide +kernel)
theorem la_d1189 : decode xMlaw.2.1 1189 = .ok (.pop, 1) := dz_ok (by decide +kernel)
theorem la_d1190 : decode xMlaw.2.1 1190 = .ok (.aload_n 2, 1) := dz_ok (by decide +kernel)
theorem la_d1191 : decode xMlaw.2.1 1191 = .ok (.aload_n 0, 1) := dz_ok (by decide +kernel)
theorem la_d1192 : decode xMlaw.2.1 1192 = .ok (.iload_n 3, 1) := dz_ok (by decide +kernel)
theorem la_d1193 : decode xMlaw.2.1 1193 = .ok (.iconst 1, 1) := dz_ok (by decide +kernel)
theorem la_d1194 : decode xMlaw.2.1 1194 = .ok (.iadd, 1) := dz_ok (by decide +kernel)
theorem la_d1195 : decode xMlaw.2.1 1195 = .ok (.iaload, 1) := dz_ok (by decide +kernel)
theorem la_d1196 : decode xMlaw.2.1 1196 = .ok (.aload_n 0, 1) := dz_ok (by decide +kernel)
theorem la_d1197 : decode xMlaw.2.1 1197 = .ok (.iload_n 3, 1) := dz_ok (by decide +kernel)
theorem la_d1198 : decode xMlaw.2.1 1198 = .ok (.iconst 2, 1) := dz_ok (by decide +kernel)
theorem la_d1199 : decode xMlaw.2.1 1199 = .ok (.iadd, 1) := dz_ok (by decide +kernel)
theorem la_d1200 : decode xMlaw.2.1 1200 = .ok (.iaload, 1) := by decide +kernel
theorem la_d1201 : decode xMlaw.2.1 1201 = .ok (.invokevirtual 141, 3) := by decide +kernel
theorem la_d1204 : decode xMlaw.2.1 1204 = .ok (.pop, 1) := by decide +kernel
theorem la_d1205 : decode xMlaw.2.1 1205 = .ok (.goto 296, 3) := by decide +kernel
theorem la_d1208 : decode xMlaw.2.1 1208 = .ok (.aload_n 1, 1) := by decide +kernel
theorem la_d1209 : decode xMlaw.2.1 1209 = .ok (.aload_n 0, 1) := by decide +kernel
theorem la_d1210 : decode xMlaw.2.1 1210 = .ok (.iload_n 3, 1) := by decide +kernel
theorem la_d1211 : decode xMlaw.2.1 1211 = .ok (.iconst 1, 1) := by decide +kernel
theorem la_d1212 : decode xMlaw.2.1 1212 = .ok (.iadd, 1) := by decide +kernel
theorem la_d1213 : decode xMlaw.2.1 1213 = .ok (.iaload, 1) := by decide +kernel
theorem la_d1214 : decode xMlaw.2.1 1214 = .ok (.invokevirtual 142, 3) := by decide +kernel
theorem la_d1217 : decode xMlaw.2.1 1217 = .ok (.aload_n 2, 1) := by decide +kernel
theorem la_d1218 : decode xMlaw.2.1 1218 = .ok (.aload_n 0, 1) := by decide +kernel
theorem la_d1219 : decode xMlaw.2.1 1219 = .ok (.iload_n 3, 1) := by decide +kernel
theorem la_d1220 : decode xMlaw.2.1 1220 = .ok (.iconst 1, 1) := by decide +kernel
theorem la_d1221 : decode xMlaw.2.1 1221 = .ok (.iadd, 1) := by decide +kernel
theorem la_d1222 : decode xMlaw.2.1 1222 = .ok (.iaload, 1) := by decide +kernel
theorem la_d1223 : decode xMlaw.2.1 1223 = .ok (.invokevirtual 145, 3) := by decide +kernel
theorem la_d1226 : decode xMlaw.2.1 1226 = .ok (.if_icmp .eq 275, 3) := by decide +kernel
theorem la_d1229 : decode xMlaw.2.1 1229 = .ok (.iconst 0, 1) := by decide +kernel
theorem la_d1230 : decode xMlaw.2.1 1230 = .ok (.ireturn, 1) := by decide +kernel
theorem la_d1231 : decode xMlaw.2.1 1231 = .ok (.aload_n 1, 1) := by decide +kernel
theorem la_d1232 : decode xMlaw.2.1 1232 = .ok (.aload_n 0, 1) := by decide +kernel
theorem la_d1233 : decode xMlaw.2.1 1233 = .ok (.iload_n 3, 1) := by decide +kernel
theorem la_d1234 : decode xMlaw.2.1 1234 = .ok (.iconst 1, 1) := by decide +kernel
theorem la_d1235 : decode xMlaw.2.1 1235 = .ok (.iadd, 1) := by decide +kernel
theorem la_d1236 : decode xMlaw.2.1 1236 = .ok (.iaload, 1) := by decide +kernel
theorem la_d1237 : decode xMlaw.2.1 1237 = .ok (.aload_n 0, 1) := by decide +kernel
theorem la_d1238 : decode xMlaw.2.1 1238 = .ok (.iload_n 3, 1) := by decide +kernel
theorem la_d1239 : decode xMlaw.2.1 1239 = .ok (.iconst 2, 1) := by decide +kernel
theorem la_d1240 : decode xMlaw.2.1 1240 = .ok (.iadd, 1) := by decide +kernel
theorem la_d1241 : decode xMlaw.2.1 1241 = .ok (.iaload, 1) := by decide +kernel
theorem la_d1242 : decode xMlaw.2.1 1242 = .ok (.invokevirtual 146, 3) := by decide +kernel
theorem la_d1245 : decode xMlaw.2.1 1245 = .ok (.pop, 1) := by decide +kernel
theorem la_d1246 : decode xMlaw.2.1 1246 = .ok (.aload_n 2, 1) := by decide +kernel
theorem la_d1247 : decode xMlaw.2.1 1247 = .ok (.aload_n 0, 1) := by decide +kernel
theorem la_d1248 : decode xMlaw.2.1 1248 = .ok (.iload_n 3, 1) := by decide +kernel
theorem la_d1249 : decode xMlaw.2.1 1249 = .ok (.iconst 1, 1) := by decide +kernel
theorem la_d1250 : decode xMlaw.2.1 1250 = .ok (.iadd, 1) := by decide +kernel
theorem la_d1251 : decode xMlaw.2.1 1251 = .ok (.iaload, 1) := by decide +kernel
theorem la_d1252 : decode xMlaw.2.1 1252 = .ok (.aload_n 0, 1) := by decide +kernel
theorem la_d1253 : decode xMlaw.2.1 1253 = .ok (.iload_n 3, 1) := by decide +kernel
theorem la_d1254 : decode xMlaw.2.1 1254 = .ok (.iconst 2, 1) := by decide +kernel
theorem la_d1255 : decode xMlaw.2.1 1255 = .ok (.iadd, 1) := by decide +kernel
theorem la_d1256 : decode xMlaw.2.1 1256 = .ok (.iaload, 1) := by decide +kernel
theorem la_d1257 : decode xMlaw.2.1 1257 = .ok (.invokevirtual 149, 3) := by decide +kernel
theorem la_d1260 : decode xMlaw.2.1 1260 = .ok (.pop, 1) := by decide +kernel
theorem la_d1261 : decode xMlaw.2.1 1261 = .ok (.goto 240, 3) := by decide +kernel
theorem la_d1264 : decode xMlaw.2.1 1264 = .ok (.aload_n 1, 1) := by decide +kernel
theorem la_d1265 : decode xMlaw.2.1 1265 = .ok (.aload_n 0, 1) := by decide +kernel
theorem la_d1266 : decode xMlaw.2.1 1266 = .ok (.iload_n 3, 1) := by decide +kernel
theorem la_d1267 : decode xMlaw.2.1 1267 = .ok (.iconst 1, 1) := by decide +kernel
theorem la_d1268 : decode xMlaw.2.1 1268 = .ok (.iadd, 1) := by decide +kernel
theorem la_d1269 : decode xMlaw.2.1 1269 = .ok (.iaload, 1) := by decide +kernel
theorem la_d1270 : decode xMlaw.2.1 1270 = .ok (.aload_n 0, 1) := by decide +kernel
theorem la_d1271 : decode xMlaw.2.1 1271 = .ok (.iload_n 3, 1) := by decide +kernel
theorem la_d1272 : decode xMlaw.2.1 1272 = .ok (.iconst 2, 1) := by decide +kernel
theorem la_d1273 : decode xMlaw.2.1 1273 = .ok (.iadd, 1) := by decide +kernel
theorem la_d1274 : decode xMlaw.2.1 1274 = .ok (.iaload, 1) := by decide +kernel
theorem la_d1275 : decode xMlaw.2.1 1275 = .ok (.invokevirtual 150, 3) := by decide +kernel
theorem la_d1278 : decode xMlaw.2.1 1278 = .ok (.pop, 1) := by decide +kernel
theorem la_d1279 : decode xMlaw.2.1 1279 = .ok (.aload_n 2, 1) := by decide +kernel
theorem la_d1280 : decode xMlaw.2.1 1280 = .ok (.aload_n 0, 1) := by decide +kernel
theorem la_d1281 : decode xMlaw.2.1 1281 = .ok (.iload_n 3, 1) := by decide +kernel
theorem la_d1282 : decode xMlaw.2.1 1282 = .ok (.iconst 1, 1) := by decide +kernel
theorem la_d1283 : decode xMlaw.2.1 1283 = .ok (.iadd, 1) := by decide +kernel
theorem la_d1284 : decode xMlaw.2.1 1284 = .ok (.iaload, 1) := by decide +kernel
theorem la_d1285 : decode xMlaw.2.1 1285 = .ok (.aload_n 0, 1) := by decide +kernel
theorem la_d1286 : decode xMlaw.2.1 1286 = .ok (.iload_n 3, 1) := by decide +kernel
theorem la_d1287 : decode xMlaw.2.1 1287 = .ok (.iconst 2, 1) := by decide +kernel
theorem la_d1288 : decode xMlaw.2.1 1288 = .ok (.iadd, 1) := by decide +kernel
theorem la_d1289 : decode xMlaw.2.1 1289 = .ok (.iaload, 1) := by decide +kernel
theorem la_d1290 : decode xMlaw.2.1 1290 = .ok (.invokevirtual 153, 3) := by decide +kernel
theorem la_d1293 : decode xMlaw.2.1 1293 = .ok (.pop, 1) := by decide +kernel
theorem la_d1294 : decode xMlaw.2.1 1294 = .ok (.goto 207, 3) := by decide +kernel
theorem la_d1297 : decode xMlaw.2.1 1297 = .ok (.aload_n 1, 1) := by decide +kernel
theorem la_d1298 : decode xMlaw.2.1 1298 = .ok (.aload_n 0, 1) := by decide +kernel
theorem la_d1299 : decode xMlaw.2.1 1299 = .ok (.iload_n 3, 1) := by decide +kernel
theorem la_d1300 : decode xMlaw.2.1 1300 = .ok (.iconst 1, 1) := by decide +kernel
theorem la_d1301 : decode xMlaw.2.1 1301 = .ok (.iadd, 1) := by decide +kernel
theorem la_d1302 : decode xMlaw.2.1 1302 = .ok (.iaload, 1) := by decide +kernel
theorem la_d1303 : decode xMlaw.2.1 1303 = .ok (.aload_n 0, 1) := by decide +kernel
theorem la_d1304 : decode xMlaw.2.1 1304 = .ok (.iload_n 3, 1) := by decide +kernel
theorem la_d1305 : decode xMlaw.2.1 1305 = .ok (.iconst 2, 1) := by decide +kernel
theorem la_d1306 : decode xMlaw.2.1 1306 = .ok (.iadd, 1) := by decide +kernel
theorem la_d1307 : decode xMlaw.2.1 1307 = .ok (.iaload, 1) := by decide +kernel
theorem la_d1308 : decode xMlaw.2.1 1308 = .ok (.aload_n 0, 1) := by decide +kernel
theorem la_d1309 : decode xMlaw.2.1 1309 = .ok (.iload_n 3, 1) := by decide +kernel
theorem la_d1310 : decode xMlaw.2.1 1310 = .ok (.iconst 3, 1) := by decide +kernel
theorem la_d1311 : decode xMlaw.2.1 1311 = .ok (.iadd, 1) := by decide +kernel
theorem la_d1312 : decode xMlaw.2.1 1312 = .ok (.iaload, 1) := by decide +kernel
theorem la_d1313 : decode xMlaw.2.1 1313 = .ok (.invokevirtual 154, 3) := by decide +kernel
theorem la_d1316 : decode xMlaw.2.1 1316 = .ok (.pop, 1) := by decide +kernel
theorem la_d1317 : decode xMlaw.2.1 1317 = .ok (.aload_n 2, 1) := by decide +kernel
theorem la_d1318 : decode xMlaw.2.1 1318 = .ok (.aload_n 0, 1) := by decide +kernel
theorem la_d1319 : decode xMlaw.2.1 1319 = .ok (.iload_n 3, 1) := by decide +kernel
theorem la_d1320 : decode xMlaw.2.1 1320 = .ok (.iconst 1, 1) := by decide +kernel
theorem la_d1321 : decode xMlaw.2.1 1321 = .ok (.iadd, 1) := by decide +kernel
theorem la_d1322 : decode xMlaw.2.1 1322 = .ok (.iaload, 1) := by decide +kernel
theorem la_d1323 : decode xMlaw.2.1 1323 = .ok (.aload_n 0, 1) := by decide +kernel
theorem la_d1324 : decode xMlaw.2.1 1324 = .ok (.iload_n 3, 1) := by decide +kernel
theorem la_d1325 : decode xMlaw.2.1 1325 = .ok (.iconst 2, 1) := by decide +kernel
theorem la_d1326 : decode xMlaw.2.1 1326 = .ok (.iadd, 1) := by decide +kernel
theorem la_d1327 : decode xMlaw.2.1 1327 = .ok (.iaload, 1) := by decide +kernel
theorem la_d1328 : decode xMlaw.2.1 1328 = .ok (.aload_n 0, 1) := by decide +kernel
theorem la_d1329 : decode xMlaw.2.1 1329 = .ok (.iload_n 3, 1) := by decide +kernel
theorem la_d1330 : decode xMlaw.2.1 1330 = .ok (.iconst 3, 1) := by decide +kernel
theorem la_d1331 : decode xMlaw.2.1 1331 = .ok (.iadd, 1) := by decide +kernel
theorem la_d1332 : decode xMlaw.2.1 1332 = .ok (.iaload, 1) := by decide +kernel
theorem la_d1333 : decode xMlaw.2.1 1333 = .ok (.invokevirtual 157, 3) := by decide +kernel
theorem la_d1336 : decode xMlaw.2.1 1336 = .ok (.pop, 1) := by decide +kernel
theorem la_d1337 : decode xMlaw.2.1 1337 = .ok (.goto 164, 3) := by decide +kernel
theorem la_d1340 : decode xMlaw.2.1 1340 = .ok (.aload_n 1, 1) := by decide +kernel
theorem la_d1341 : decode xMlaw.2.1 1341 = .ok (.aload_n 0, 1) := by decide +kernel
theorem la_d1342 : decode xMlaw.2.1 1342 = .ok (.iload_n 3, 1) := by decide +kernel
theorem la_d1343 : decode xMlaw.2.1 1343 = .ok (.iconst 1, 1) := by decide +kernel
theorem la_d1344 : decode xMlaw.2.1 1344 = .ok (.iadd, 1) := by decide +kernel
theorem la_d1345 : decode xMlaw.2.1 1345 = .ok (.iaload, 1) := by decide +kernel
theorem la_d1346 : decode xMlaw.2.1 1346 = .ok (.aload_n 0, 1) := by decide +kernel
theorem la_d1347 : decode xMlaw.2.1 1347 = .ok (.iload_n 3, 1) := by decide +kernel
theorem la_d1348 : decode xMlaw.2.1 1348 = .ok (.iconst 2, 1) := by decide +kernel
theorem la_d1349 : decode xMlaw.2.1 1349 = .ok (.iadd, 1) := by decide +kernel
theorem la_d1350 : decode xMlaw.2.1 1350 = .ok (.iaload, 1) := by decide +kernel
theorem la_d1351 : decode xMlaw.2.1 1351 = .ok (.invokevirtual 158, 3) := by decide +kernel
theorem la_d1354 : decode xMlaw.2.1 1354 = .ok (.pop, 1) := by decide +kernel
theorem la_d1355 : decode xMlaw.2.1 1355 = .ok (.aload_n 2, 1) := by decide +kernel
theorem la_d1356 : decode xMlaw.2.1 1356 = .ok (.aload_n 0, 1) := by decide +kernel
theorem la_d1357 : decode xMlaw.2.1 1357 = .ok (.iload_n 3, 1) := by decide +kernel
theorem la_d1358 : decode xMlaw.2.1 1358 = .ok (.iconst 1, 1) := by decide +kernel
theorem la_d1359 : decode xMlaw.2.1 1359 = .ok (.iadd, 1) := by decide +kernel
theorem la_d1360 : decode xMlaw.2.1 1360 = .ok (.iaload, 1) := by decide +kernel
theorem la_d1361 : decode xMlaw.2.1 1361 = .ok (.aload_n 0, 1) := by decide +kernel
theorem la_d1362 : decode xMlaw.2.1 1362 = .ok (.iload_n 3, 1) := by decide +kernel
theorem la_d1363 : decode xMlaw.2.1 1363 = .ok (.iconst 2, 1) := by decide +kernel
theorem la_d1364 : decode xMlaw.2.1 1364 = .ok (.iadd, 1) := by decide +kernel
theorem la_d1365 : decode xMlaw.2.1 1365 = .ok (.iaload, 1) := by decide +kernel
theorem la_d1366 : decode xMlaw.2.1 1366 = .ok (.invokevirtual 161, 3) := by decide +kernel
theorem la_d1369 : decode xMlaw.2.1 1369 = .ok (.pop, 1) := by decide +kernel
theorem la_d1370 : decode xMlaw.2.1 1370 = .ok (.goto 131, 3) := by decide +kernel
theorem la_d1373 : decode xMlaw.2.1 1373 = .ok (.aload_n 1, 1) := by decide +kernel
theorem la_d1374 : decode xMlaw.2.1 1374 = .ok (.aload_n 0, 1) := by decide +kernel
theorem la_d1375 : decode xMlaw.2.1 1375 = .ok (.iload_n 3, 1) := by decide +kernel
theorem la_d1376 : decode xMlaw.2.1 1376 = .ok (.iconst 1, 1) := by decide +kernel
theorem la_d1377 : decode xMlaw.2.1 1377 = .ok (.iadd, 1) := by decide +kernel
theorem la_d1378 : decode xMlaw.2.1 1378 = .ok (.iaload, 1) := by decide +kernel
theorem la_d1379 : decode xMlaw.2.1 1379 = .ok (.invokevirtual 162, 3) := by decide +kernel
theorem la_d1382 : decode xMlaw.2.1 1382 = .ok (.pop2, 1) := by decide +kernel
theorem la_d1383 : decode xMlaw.2.1 1383 = .ok (.aload_n 2, 1) := by decide +kernel
theorem la_d1384 : decode xMlaw.2.1 1384 = .ok (.aload_n 0, 1) := by decide +kernel
theorem la_d1385 : decode xMlaw.2.1 1385 = .ok (.iload_n 3, 1) := by decide +kernel
theorem la_d1386 : decode xMlaw.2.1 1386 = .ok (.iconst 1, 1) := by decide +kernel
theorem la_d1387 : decode xMlaw.2.1 1387 = .ok (.iadd, 1) := by decide +kernel
theorem la_d1388 : decode xMlaw.2.1 1388 = .ok (.iaload, 1) := by decide +kernel
theorem la_d1389 : decode xMlaw.2.1 1389 = .ok (.invokevirtual 166, 3) := by decide +kernel
theorem la_d1392 : decode xMlaw.2.1 1392 = .ok (.pop2, 1) := by decide +kernel
theorem la_d1393 : decode xMlaw.2.1 1393 = .ok (.goto 108, 3) := by decide +kernel
theorem la_d1396 : decode xMlaw.2.1 1396 = .ok (.aload_n 1, 1) := by decide +kernel
theorem la_d1397 : decode xMlaw.2.1 1397 = .ok (.aload_n 0, 1) := by decide +kernel
theorem la_d1398 : decode xMlaw.2.1 1398 = .ok (.iload_n 3, 1) := by decide +kernel
theorem la_d1399 : decode xMlaw.2.1 1399 = .ok (.iconst 1, 1) := by decide +kernel
theorem la_d1400 : decode xMlaw.2.1 1400 = .ok (.iadd, 1) := by decide +kernel
theorem la_d1401 : decode xMlaw.2.1 1401 = .ok (.iaload, 1) := by decide +kernel
theorem la_d1402 : decode xMlaw.2.1 1402 = .ok (.invokevirtual 167, 3) := by decide +kernel
theorem la_d1405 : decode xMlaw.2.1 1405 = .ok (.pop, 1) := by decide +kernel
theorem la_d1406 : decode xMlaw.2.1 1406 = .ok (.aload_n 2, 1) := by decide +kernel
theorem la_d1407 : decode xMlaw.2.1 1407 = .ok (.aload_n 0, 1) := by decide +kernel
theorem la_d1408 : decode xMlaw.2.1 1408 = .ok (.iload_n 3, 1) := by decide +kernel
theorem la_d1409 : decode xMlaw.2.1 1409 = .ok (.iconst 1, 1) := by decide +kernel
theorem la_d1410 : decode xMlaw.2.1 1410 = .ok (.iadd, 1) := by decide +kernel
theorem la_d1411 : decode xMlaw.2.1 1411 = .ok (.iaload, 1) := by decide +kernel
theorem la_d1412 : decode xMlaw.2.1 1412 = .ok (.invokevirtual 170, 3) := by decide +kernel
theorem la_d1415 : decode xMlaw.2.1 1415 = .ok (.pop, 1) := by decide +kernel
theorem la_d1416 : decode xMlaw.2.1 1416 = .ok (.goto 85, 3) := by decide +kernel
theorem la_d1419 : decode xMlaw.2.1 1419 = .ok (.aload_n 1, 1) := by decide +kernel
theorem la_d1420 : decode xMlaw.2.1 1420 = .ok (.aload_n 0, 1) := by decide +kernel
theorem la_d1421 : decode xMlaw.2.1 1421 = .ok (.iload_n 3, 1) := by decide +kernel
theorem la_d1422 : decode xMlaw.2.1 1422 = .ok (.iconst 1, 1) := by decide +kernel
theorem la_d1423 : decode xMlaw.2.1 1423 = .ok (.iadd, 1) := by decide +kernel
theorem la_d1424 : decode xMlaw.2.1 1424 = .ok (.iaload, 1) := by decide +kernel
theorem la_d1425 : decode xMlaw.2.1 1425 = .ok (.invokevirtual 171, 3) := by decide +kernel
theorem la_d1428 : decode xMlaw.2.1 1428 = .ok (.pop, 1) := by decide +kernel
theorem la_d1429 : decode xMlaw.2.1 1429 = .ok (.aload_n 2, 1) := by decide +kernel
theorem la_d1430 : decode xMlaw.2.1 1430 = .ok (.aload_n 0, 1) := by decide +kernel
theorem la_d1431 : decode xMlaw.2.1 1431 = .ok (.iload_n 3, 1) := by decide +kernel
theorem la_d1432 : decode xMlaw.2.1 1432 = .ok (.iconst 1, 1) := by decide +kernel
theorem la_d1433 : decode xMlaw.2.1 1433 = .ok (.iadd, 1) := by decide +kernel
theorem la_d1434 : decode xMlaw.2.1 1434 = .ok (.iaload, 1) := by decide +kernel
theorem la_d1435 : decode xMlaw.2.1 1435 = .ok (.invokevirtual 174, 3) := by decide +kernel
theorem la_d1438 : decode xMlaw.2.1 1438 = .ok (.pop, 1) := by decide +kernel
theorem la_d1439 : decode xMlaw.2.1 1439 = .ok (.goto 62, 3) := by decide +kernel
theorem la_d1442 : decode xMlaw.2.1 1442 = .ok (.aload_n 1, 1) := by decide +kernel
theorem la_d1443 : decode xMlaw.2.1 1443 = .ok (.aload_n 0, 1) := by decide +kernel
theorem la_d1444 : decode xMlaw.2.1 1444 = .ok (.iload_n 3, 1) := by decide +kernel
theorem la_d1445 : decode xMlaw.2.1 1445 = .ok (.iconst 1, 1) := by decide +kernel
theorem la_d1446 : decode xMlaw.2.1 1446 = .ok (.iadd, 1) := by decide +kernel
theorem la_d1447 : decode xMlaw.2.1 1447 = .ok (.iaload, 1) := by decide +kernel
theorem la_d1448 : decode xMlaw.2.1 1448 = .ok (.invokevirtual 175, 3) := by decide +kernel
theorem la_d1451 : decode xMlaw.2.1 1451 = .ok (.pop, 1) := by decide +kernel
theorem la_d1452 : decode xMlaw.2.1 1452 = .ok (.aload_n 2, 1) := by decide +kernel
theorem la_d1453 : decode xMlaw.2.1 1453 = .ok (.aload_n 0, 1) := by decide +kernel
theorem la_d1454 : decode xMlaw.2.1 1454 = .ok (.iload_n 3, 1) := by decide +kernel
theorem la_d1455 : decode xMlaw.2.1 1455 = .ok (.iconst 1, 1) := by decide +kernel
theorem la_d1456 : decode xMlaw.2.1 1456 = .ok (.iadd, 1) := by decide +kernel
theorem la_d1457 : decode xMlaw.2.1 1457 = .ok (.iaload, 1) := by decide +kernel
theorem la_d1458 : decode xMlaw.2.1 1458 = .ok (.invokevirtual 178, 3) := by decide +kernel
theorem la_d1461 : decode xMlaw.2.1 1461 = .ok (.pop, 1) := by decide +kernel
theorem la_d1462 : decode xMlaw.2.1 1462 = .ok (.goto 39, 3) := by decide +kernel
theorem la_d1465 : decode xMlaw.2.1 1465 = .ok (.aload_n 1, 1) := by decide +kernel
theorem la_d1466 : decode xMlaw.2.1 1466 = .ok (.aload_n 0, 1) := by decide +kernel
theorem la_d1467 : decode xMlaw.2.1 1467 = .ok (.iload_n 3, 1) := by decide +kernel
theorem la_d1468 : decode xMlaw.2.1 1468 = .ok (.iconst 1, 1) := by decide +kernel
theorem la_d1469 : decode xMlaw.2.1 1469 = .ok (.iadd, 1) := by decide +kernel
theorem la_d1470 : decode xMlaw.2.1 1470 = .ok (.iaload, 1) := by decide +kernel
theorem la_d1471 : decode xMlaw.2.1 1471 = .ok (.invokevirtual 179, 3) := by decide +kernel
theorem la_d1474 : decode xMlaw.2.1 1474 = .ok (.pop, 1) := by decide +kernel
theorem la_d1475 : decode xMlaw.2.1 1475 = .ok (.aload_n 2, 1) := by decide +kernel
theorem la_d1476 : decode xMlaw.2.1 1476 = .ok (.aload_n 0, 1) := by decide +kernel
theorem la_d1477 : decode xMlaw.2.1 1477 = .ok (.iload_n 3, 1) := by decide +kernel
theorem la_d1478 : decode xMlaw.2.1 1478 = .ok (.iconst 1, 1) := by decide +kernel
theorem la_d1479 : decode xMlaw.2.1 1479 = .ok (.iadd, 1) := by decide +kernel
theorem la_d1480 : decode xMlaw.2.1 1480 = .ok (.iaload, 1) := by decide +kernel
theorem la_d1481 : decode xMlaw.2.1 1481 = .ok (.invokevirtual 182, 3) := by decide +kernel
theorem la_d1484 : decode xMlaw.2.1 1484 = .ok (.pop, 1) := by decide +kernel
theorem la_d1485 : decode xMlaw.2.1 1485 = .ok (.goto 16, 3) := by decide +kernel
theorem la_d1488 : decode xMlaw.2.1 1488 = .ok (.aload_n 1, 1) := by decide +kernel
theorem la_d1489 : decode xMlaw.2.1 1489 = .ok (.invokevirtual 183, 3) := by decide +kernel
theorem la_d1492 : decode xMlaw.2.1 1492 = .ok (.pop2, 1) := by decide +kernel
theorem la_d1493 : decode xMlaw.2.1 1493 = .ok (.aload_n 2, 1) := by decide +kernel
theorem la_d1494 : decode xMlaw.2.1 1494 = .ok (.invokevirtual 187, 3) := by decide +kernel
theorem la_d1497 : decode xMlaw.2.1 1497 = .ok (.pop2, 1) := by decide +kernel
theorem la_d1498 : decode xMlaw.2.1 1498 = .ok (.goto 3, 3) := by decide +kernel
theorem la_d1501 : decode xMlaw.2.1 1501 = .ok (.iinc 3 6, 3) := by decide +kernel
theorem la_d1504 : decode xMlaw.2.1 1504 = .ok (.goto (-1486), 3) := by decide +kernel
theorem la_d1507 : decode xMlaw.2.1 1507 = .ok (.iconst 1, 1) := by decide +kernel
theorem la_d1508 : decode xMlaw.2.1 1508 = .ok (.ireturn, 1) := by decide +kernel
