/-! the methods -/
set_option maxRecDepth 100000 in
theorem pg_m0 : mm_mok pg_S 0 := ⟨⟨by decide +kernel, List.mem_of_getElem? (i := 193) (by decide +kernel), List.mem_of_getElem? (i := 37) (by decide +kernel), by decide +kernel, by decide +kernel⟩, ⟨by decide, by decide⟩, Or.inl ⟨rfl, rfl⟩, Or.inr (Or.inr ⟨Or.inl rfl, by decide +kernel, List.mem_of_getElem? (i := 192) (by decide +kernel), rfl, rfl⟩)⟩
set_option maxRecDepth 100000 in
theorem pg_m1 : mm_mok pg_S 1 := ⟨⟨by decide +kernel, List.mem_of_getElem? (i := 185) (by decide +kernel), List.mem_of_getElem? (i := 37) (by decide +kernel), by decide +kernel, by decide +kernel⟩, ⟨by decide, by decide⟩, Or.inr (Or.inr ⟨rfl, rfl⟩), Or.inr (Or.inl ⟨rfl, by decide +kernel, List.mem_of_getElem? (i := 183) (by decide +kernel), List.mem_of_getElem? (i := 184) (by decide +kernel), by decide, rfl⟩)⟩
set_option maxRecDepth 100000 in
theorem pg_m2 : mm_mok pg_S 2 := ⟨⟨by decide +kernel, List.mem_of_getElem? (i := 315) (by decide +kernel), List.mem_of_getElem? (i := 37) (by decide +kernel), by decide +kernel, by decide +kernel⟩, ⟨by decide, by decide⟩, Or.inr (Or.inr ⟨rfl, rfl⟩), Or.inr (Or.inl ⟨rfl, by decide +kernel, List.mem_of_getElem? (i := 313) (by decide +kernel), List.mem_of_getElem? (i := 314) (by decide +kernel), by decide, rfl⟩)⟩
set_option maxRecDepth 100000 in
theorem pg_m3 : mm_mok pg_S 3 := ⟨⟨by decide +kernel, List.mem_of_getElem? (i := 122) (by decide +kernel), List.mem_of_getElem? (i := 36) (by decide +kernel), by decide +kernel, by decide +kernel⟩, ⟨by decide, by decide⟩, Or.inl ⟨rfl, rfl⟩, Or.inr (Or.inr ⟨Or.inr rfl, by decide +kernel, List.mem_of_getElem? (i := 121) (by decide +kernel), rfl, rfl⟩)⟩
set_option maxRecDepth 100000 in
theorem pg_m4 : mm_mok pg_S 4 := ⟨⟨by decide +kernel, List.mem_of_getElem? (i := 257) (by decide +kernel), List.mem_of_getElem? (i := 36) (by decide +kernel), by decide +kernel, by decide +kernel⟩, ⟨by decide, by decide⟩, Or.inr (Or.inr ⟨rfl, rfl⟩), Or.inr (Or.inl ⟨rfl, by decide +kernel, List.mem_of_getElem? (i := 255) (by decide +kernel), List.mem_of_getElem? (i := 256) (by decide +kernel), by decide, rfl⟩)⟩
set_option maxRecDepth 100000 in
theorem pg_m5 : mm_mok pg_S 5 := ⟨⟨by decide +kernel, List.mem_of_getElem? (i := 253) (by decide +kernel), List.mem_of_getElem? (i := 36) (by decide +kernel), by decide +kernel, by decide +kernel⟩, ⟨by decide, by decide⟩, Or.inr (Or.inr ⟨rfl, rfl⟩), Or.inr (Or.inl ⟨rfl, by decide +kernel, List.mem_of_getElem? (i := 251) (by decide +kernel), List.mem_of_getElem? (i := 252) (by decide +kernel), by decide, rfl⟩)⟩
set_option maxRecDepth 100000 in
theorem pg_m6 : mm_mok pg_S 6 := ⟨⟨by decide +kernel, List.mem_of_getElem? (i := 299) (by decide +kernel), List.mem_of_getElem? (i := 36) (by decide +kernel), by decide +kernel, by decide +kernel⟩, ⟨by decide, by decide⟩, Or.inr (Or.inr ⟨rfl, rfl⟩), Or.inr (Or.inl ⟨rfl, by decide +kernel, List.mem_of_getElem? (i := 297) (by decide +kernel), List.mem_of_getElem? (i := 298) (by decide +kernel), by decide, rfl⟩)⟩
set_option maxRecDepth 100000 in
theorem pg_m7 : mm_mok pg_S 7 := ⟨⟨by decide +kernel, List.mem_of_getElem? (i := 261) (by decide +kernel), List.mem_of_getElem? (i := 36) (by decide +kernel), by decide +kernel, by decide +kernel⟩, ⟨by decide, by decide⟩, Or.inl ⟨rfl, rfl⟩, Or.inr (Or.inl ⟨rfl, by decide +kernel, List.mem_of_getElem? (i := 259) (by decide +kernel), List.mem_of_getElem? (i := 260) (by decide +kernel), by decide, rfl⟩)⟩
set_option maxRecDepth 100000 in
theorem pg_m8 : mm_mok pg_S 8 := ⟨⟨by decide +kernel, List.mem_of_getElem? (i := 341) (by decide +kernel), List.mem_of_getElem? (i := 36) (by decide +kernel), by decide +kernel, by decide +kernel⟩, ⟨by decide, by decide⟩, Or.inl ⟨rfl, rfl⟩, Or.inr (Or.inl ⟨rfl, by decide +kernel, List.mem_of_getElem? (i := 339) (by decide +kernel), List.mem_of_getElem? (i := 340) (by decide +kernel), by decide, rfl⟩)⟩
set_option maxRecDepth 100000 in
theorem pg_m9 : mm_mok pg_S 9 := ⟨⟨by decide +kernel, List.mem_of_getElem? (i := 388) (by decide +kernel), List.mem_of_getElem? (i := 36) (by decide +kernel), by decide +kernel, by decide +kernel⟩, ⟨by decide, by decide⟩, Or.inr (Or.inl ⟨rfl, rfl⟩), Or.inr (Or.inl ⟨rfl, by decide +kernel, List.mem_of_getElem? (i := 386) (by decide +kernel), List.mem_of_getElem? (i := 387) (by decide +kernel), by decide, rfl⟩)⟩
set_option maxRecDepth 100000 in
theorem pg_m10 : mm_mok pg_S 10 := ⟨⟨by decide +kernel, List.mem_of_getElem? (i := 116) (by decide +kernel), List.mem_of_getElem? (i := 35) (by decide +kernel), by decide +kernel, by decide +kernel⟩, ⟨by decide, by decide⟩, Or.inl ⟨rfl, rfl⟩, Or.inr (Or.inr ⟨Or.inl rfl, by decide +kernel, List.mem_of_getElem? (i := 115) (by decide +kernel), rfl, rfl⟩)⟩
set_option maxRecDepth 100000 in
theorem pg_m11 : mm_mok pg_S 11 := ⟨⟨by decide +kernel, List.mem_of_getElem? (i := 207) (by decide +kernel), List.mem_of_getElem? (i := 35) (by decide +kernel), by decide +kernel, by decide +kernel⟩, ⟨by decide, by decide⟩, Or.inr (Or.inl ⟨rfl, rfl⟩), Or.inr (Or.inl ⟨rfl, by decide +kernel, List.mem_of_getElem? (i := 205) (by decide +kernel), List.mem_of_getElem? (i := 206) (by decide +kernel), by decide, rfl⟩)⟩
set_option maxRecDepth 100000 in
theorem pg_m12 : mm_mok pg_S 12 := ⟨⟨by decide +kernel, List.mem_of_getElem? (i := 181) (by decide +kernel), List.mem_of_getElem? (i := 35) (by decide +kernel), by decide +kernel, by decide +kernel⟩, ⟨by decide, by decide⟩, Or.inr (Or.inr ⟨rfl, rfl⟩), Or.inr (Or.inl ⟨rfl, by decide +kernel, List.mem_of_getElem? (i := 179) (by decide +kernel), List.mem_of_getElem? (i := 180) (by decide +kernel), by decide, rfl⟩)⟩
set_option maxRecDepth 100000 in
theorem pg_m13 : mm_mok pg_S 13 := ⟨⟨by decide +kernel, List.mem_of_getElem? (i := 189) (by decide +kernel), List.mem_of_getElem? (i := 35) (by decide +kernel), by decide +kernel, by decide +kernel⟩, ⟨by decide, by decide⟩, Or.inl ⟨rfl, rfl⟩, Or.inr (Or.inl ⟨rfl, by decide +kernel, List.mem_of_getElem? (i := 187) (by decide +kernel), List.mem_of_getElem? (i := 188) (by decide +kernel), by decide, rfl⟩)⟩
set_option maxRecDepth 100000 in
theorem pg_m14 : mm_mok pg_S 14 := ⟨⟨by decide +kernel, List.mem_of_getElem? (i := 236) (by decide +kernel), List.mem_of_getElem? (i := 35) (by decide +kernel), by decide +kernel, by decide +kernel⟩, ⟨by decide, by decide⟩, Or.inr (Or.inl ⟨rfl, rfl⟩), Or.inr (Or.inl ⟨rfl, by decide +kernel, List.mem_of_getElem? (i := 234) (by decide +kernel), List.mem_of_getElem? (i := 235) (by decide +kernel), by decide, rfl⟩)⟩
set_option maxRecDepth 100000 in
theorem pg_m15 : mm_mok pg_S 15 := ⟨⟨by decide +kernel, List.mem_of_getElem? (i := 310) (by decide +kernel), List.mem_of_getElem? (i := 35) (by decide +kernel), by decide +kernel, by decide +kernel⟩, ⟨by decide, by decide⟩, Or.inr (Or.inr ⟨rfl, rfl⟩), Or.inr (Or.inl ⟨rfl, by decide +kernel, List.mem_of_getElem? (i := 308) (by decide +kernel), List.mem_of_getElem? (i := 309) (by decide +kernel), by decide, rfl⟩)⟩
set_option maxRecDepth 100000 in
theorem pg_m16 : mm_mok pg_S 16 := ⟨⟨by decide +kernel, List.mem_of_getElem? (i := 376) (by decide +kernel), List.mem_of_getElem? (i := 35) (by decide +kernel), by decide +kernel, by decide +kernel⟩, ⟨by decide, by decide⟩, Or.inr (Or.inr ⟨rfl, rfl⟩), Or.inr (Or.inl ⟨rfl, by decide +kernel, List.mem_of_getElem? (i := 374) (by decide +kernel), List.mem_of_getElem? (i := 375) (by decide +kernel), by decide, rfl⟩)⟩
set_option maxRecDepth 100000 in
theorem pg_m17 : mm_mok pg_S 17 := ⟨⟨by decide +kernel, List.mem_of_getElem? (i := 330) (by decide +kernel), List.mem_of_getElem? (i := 35) (by decide +kernel), by decide +kernel, by decide +kernel⟩, ⟨by decide, by decide⟩, Or.inr (Or.inr ⟨rfl, rfl⟩), Or.inr (Or.inl ⟨rfl, by decide +kernel, List.mem_of_getElem? (i := 328) (by decide +kernel), List.mem_of_getElem? (i := 329) (by decide +kernel), by decide, rfl⟩)⟩
set_option maxRecDepth 100000 in
theorem pg_m18 : mm_mok pg_S 18 := ⟨⟨by decide +kernel, List.mem_of_getElem? (i := 306) (by decide +kernel), List.mem_of_getElem? (i := 35) (by decide +kernel), by decide +kernel, by decide +kernel⟩, ⟨by decide, by decide⟩, Or.inr (Or.inl ⟨rfl, rfl⟩), Or.inr (Or.inl ⟨rfl, by decide +kernel, List.mem_of_getElem? (i := 304) (by decide +kernel), List.mem_of_getElem? (i := 305) (by decide +kernel), by decide, rfl⟩)⟩
set_option maxRecDepth 100000 in
theorem pg_m19 : mm_mok pg_S 19 := ⟨⟨by decide +kernel, List.mem_of_getElem? (i := 326) (by decide +kernel), List.mem_of_getElem? (i := 35) (by decide +kernel), by decide +kernel, by decide +kernel⟩, ⟨by decide, by decide⟩, Or.inl ⟨rfl, rfl⟩, Or.inr (Or.inl ⟨rfl, by decide +kernel, List.mem_of_getElem? (i := 324) (by decide +kernel), List.mem_of_getElem? (i := 325) (by decide +kernel), by decide, rfl⟩)⟩
set_option maxRecDepth 100000 in
theorem pg_m20 : mm_mok pg_S 20 := ⟨⟨by decide +kernel, List.mem_of_getElem? (i := 334) (by decide +kernel), List.mem_of_getElem? (i := 35) (by decide +kernel), by decide +kernel, by decide +kernel⟩, ⟨by decide, by decide⟩, Or.inl ⟨rfl, rfl⟩, Or.inr (Or.inl ⟨rfl, by decide +kernel, List.mem_of_getElem? (i := 332) (by decide +kernel), List.mem_of_getElem? (i := 333) (by decide +kernel), by decide, rfl⟩)⟩
set_option maxRecDepth 100000 in
theorem pg_m21 : mm_mok pg_S 21 := ⟨⟨by decide +kernel, List.mem_of_getElem? (i := 51) (by decide +kernel), List.mem_of_getElem? (i := 32) (by decide +kernel), by decide +kernel, by decide +kernel⟩, ⟨by decide, by decide⟩, Or.inl ⟨rfl, rfl⟩, Or.inr (Or.inr ⟨Or.inr rfl, by decide +kernel, List.mem_of_getElem? (i := 50) (by decide +kernel), rfl, rfl⟩)⟩
set_option maxRecDepth 100000 in
theorem pg_m22 : mm_mok pg_S 22 := ⟨⟨by decide +kernel, List.mem_of_getElem? (i := 241) (by decide +kernel), List.mem_of_getElem? (i := 32) (by decide +kernel), by decide +kernel, by decide +kernel⟩, ⟨by decide, by decide⟩, Or.inr (Or.inr ⟨rfl, rfl⟩), Or.inr (Or.inl ⟨rfl, by decide +kernel, List.mem_of_getElem? (i := 239) (by decide +kernel), List.mem_of_getElem? (i := 240) (by decide +kernel), by decide, rfl⟩)⟩
set_option maxRecDepth 100000 in
theorem pg_m23 : mm_mok pg_S 23 := ⟨⟨by decide +kernel, List.mem_of_getElem? (i := 218) (by decide +kernel), List.mem_of_getElem? (i := 32) (by decide +kernel), by decide +kernel, by decide +kernel⟩, ⟨by decide, by decide⟩, Or.inl ⟨rfl, rfl⟩, Or.inr (Or.inl ⟨rfl, by decide +kernel, List.mem_of_getElem? (i := 216) (by decide +kernel), List.mem_of_getElem? (i := 217) (by decide +kernel), by decide, rfl⟩)⟩
set_option maxRecDepth 100000 in
theorem pg_m24 : mm_mok pg_S 24 := ⟨⟨by decide +kernel, List.mem_of_getElem? (i := 269) (by decide +kernel), List.mem_of_getElem? (i := 32) (by decide +kernel), by decide +kernel, by decide +kernel⟩, ⟨by decide, by decide⟩, Or.inr (Or.inr ⟨rfl, rfl⟩), Or.inr (Or.inl ⟨rfl, by decide +kernel, List.mem_of_getElem? (i := 267) (by decide +kernel), List.mem_of_getElem? (i := 268) (by decide +kernel), by decide, rfl⟩)⟩
set_option maxRecDepth 100000 in
theorem pg_m25 : mm_mok pg_S 25 := ⟨⟨by decide +kernel, List.mem_of_getElem? (i := 273) (by decide +kernel), List.mem_of_getElem? (i := 32) (by decide +kernel), by decide +kernel, by decide +kernel⟩, ⟨by decide, by decide⟩, Or.inr (Or.inl ⟨rfl, rfl⟩), Or.inr (Or.inl ⟨rfl, by decide +kernel, List.mem_of_getElem? (i := 271) (by decide +kernel), List.mem_of_getElem? (i := 272) (by decide +kernel), by decide, rfl⟩)⟩
set_option maxRecDepth 100000 in
theorem pg_m26 : mm_mok pg_S 26 := ⟨⟨by decide +kernel, List.mem_of_getElem? (i := 319) (by decide +kernel), List.mem_of_getElem? (i := 32) (by decide +kernel), by decide +kernel, by decide +kernel⟩, ⟨by decide, by decide⟩, Or.inl ⟨rfl, rfl⟩, Or.inr (Or.inl ⟨rfl, by decide +kernel, List.mem_of_getElem? (i := 317) (by decide +kernel), List.mem_of_getElem? (i := 318) (by decide +kernel), by decide, rfl⟩)⟩
set_option maxRecDepth 100000 in
theorem pg_m27 : mm_mok pg_S 27 := ⟨⟨by decide +kernel, List.mem_of_getElem? (i := 408) (by decide +kernel), List.mem_of_getElem? (i := 32) (by decide +kernel), by decide +kernel, by decide +kernel⟩, ⟨by decide, by decide⟩, Or.inr (Or.inl ⟨rfl, rfl⟩), Or.inr (Or.inl ⟨rfl, by decide +kernel, List.mem_of_getElem? (i := 406) (by decide +kernel), List.mem_of_getElem? (i := 407) (by decide +kernel), by decide, rfl⟩)⟩
set_option maxRecDepth 100000 in
theorem pg_m28 : mm_mok pg_S 28 := ⟨⟨by decide +kernel, List.mem_of_getElem? (i := 404) (by decide +kernel), List.mem_of_getElem? (i := 32) (by decide +kernel), by decide +kernel, by decide +kernel⟩, ⟨by decide, by decide⟩, Or.inr (Or.inl ⟨rfl, rfl⟩), Or.inr (Or.inl ⟨rfl, by decide +kernel, List.mem_of_getElem? (i := 402) (by decide +kernel), List.mem_of_getElem? (i := 403) (by decide +kernel), by decide, rfl⟩)⟩
set_option maxRecDepth 100000 in
theorem pg_m29 : mm_mok pg_S 29 := ⟨⟨by decide +kernel, List.mem_of_getElem? (i := 80) (by decide +kernel), List.mem_of_getElem? (i := 33) (by decide +kernel), by decide +kernel, by decide +kernel⟩, ⟨by decide, by decide⟩, Or.inl ⟨rfl, rfl⟩, Or.inr (Or.inr ⟨Or.inr rfl, by decide +kernel, List.mem_of_getElem? (i := 79) (by decide +kernel), rfl, rfl⟩)⟩
set_option maxRecDepth 100000 in
theorem pg_m30 : mm_mok pg_S 30 := ⟨⟨by decide +kernel, List.mem_of_getElem? (i := 345) (by decide +kernel), List.mem_of_getElem? (i := 33) (by decide +kernel), by decide +kernel, by decide +kernel⟩, ⟨by decide, by decide⟩, Or.inl ⟨rfl, rfl⟩, Or.inr (Or.inl ⟨rfl, by decide +kernel, List.mem_of_getElem? (i := 343) (by decide +kernel), List.mem_of_getElem? (i := 344) (by decide +kernel), by decide, rfl⟩)⟩
set_option maxRecDepth 100000 in
theorem pg_m31 : mm_mok pg_S 31 := ⟨⟨by decide +kernel, List.mem_of_getElem? (i := 349) (by decide +kernel), List.mem_of_getElem? (i := 33) (by decide +kernel), by decide +kernel, by decide +kernel⟩, ⟨by decide, by decide⟩, Or.inr (Or.inl ⟨rfl, rfl⟩), Or.inr (Or.inl ⟨rfl, by decide +kernel, List.mem_of_getElem? (i := 347) (by decide +kernel), List.mem_of_getElem? (i := 348) (by decide +kernel), by decide, rfl⟩)⟩
set_option maxRecDepth 100000 in
theorem pg_m32 : mm_mok pg_S 32 := ⟨⟨by decide +kernel, List.mem_of_getElem? (i := 43) (by decide +kernel), List.mem_of_getElem? (i := 31) (by decide +kernel), by decide +kernel, by decide +kernel⟩, ⟨by decide, by decide⟩, Or.inl ⟨rfl, rfl⟩, Or.inr (Or.inr ⟨Or.inl rfl, by decide +kernel, List.mem_of_getElem? (i := 42) (by decide +kernel), rfl, rfl⟩)⟩
set_option maxRecDepth 100000 in
theorem pg_m33 : mm_mok pg_S 33 := ⟨⟨by decide +kernel, List.mem_of_getElem? (i := 112) (by decide +kernel), List.mem_of_getElem? (i := 31) (by decide +kernel), by decide +kernel, by decide +kernel⟩, ⟨by decide, by decide⟩, Or.inr (Or.inl ⟨rfl, rfl⟩), Or.inr (Or.inl ⟨rfl, by decide +kernel, List.mem_of_getElem? (i := 110) (by decide +kernel), List.mem_of_getElem? (i := 111) (by decide +kernel), by decide, rfl⟩)⟩
set_option maxRecDepth 100000 in
theorem pg_m34 : mm_mok pg_S 34 := ⟨⟨by decide +kernel, List.mem_of_getElem? (i := 171) (by decide +kernel), List.mem_of_getElem? (i := 31) (by decide +kernel), by decide +kernel, by decide +kernel⟩, ⟨by decide, by decide⟩, Or.inr (Or.inr ⟨rfl, rfl⟩), Or.inr (Or.inl ⟨rfl, by decide +kernel, List.mem_of_getElem? (i := 169) (by decide +kernel), List.mem_of_getElem? (i := 170) (by decide +kernel), by decide, rfl⟩)⟩
set_option maxRecDepth 100000 in
theorem pg_m35 : mm_mok pg_S 35 := ⟨⟨by decide +kernel, List.mem_of_getElem? (i := 214) (by decide +kernel), List.mem_of_getElem? (i := 31) (by decide +kernel), by decide +kernel, by decide +kernel⟩, ⟨by decide, by decide⟩, Or.inr (Or.inr ⟨rfl, rfl⟩), Or.inr (Or.inl ⟨rfl, by decide +kernel, List.mem_of_getElem? (i := 212) (by decide +kernel), List.mem_of_getElem? (i := 213) (by decide +kernel), by decide, rfl⟩)⟩
set_option maxRecDepth 100000 in
theorem pg_m36 : mm_mok pg_S 36 := ⟨⟨by decide +kernel, List.mem_of_getElem? (i := 222) (by decide +kernel), List.mem_of_getElem? (i := 31) (by decide +kernel), by decide +kernel, by decide +kernel⟩, ⟨by decide, by decide⟩, Or.inr (Or.inr ⟨rfl, rfl⟩), Or.inr (Or.inl ⟨rfl, by decide +kernel, List.mem_of_getElem? (i := 220) (by decide +kernel), List.mem_of_getElem? (i := 221) (by decide +kernel), by decide, rfl⟩)⟩
set_option maxRecDepth 100000 in
theorem pg_m37 : mm_mok pg_S 37 := ⟨⟨by decide +kernel, List.mem_of_getElem? (i := 226) (by decide +kernel), List.mem_of_getElem? (i := 31) (by decide +kernel), by decide +kernel, by decide +kernel⟩, ⟨by decide, by decide⟩, Or.inr (Or.inl ⟨rfl, rfl⟩), Or.inr (Or.inl ⟨rfl, by decide +kernel, List.mem_of_getElem? (i := 224) (by decide +kernel), List.mem_of_getElem? (i := 225) (by decide +kernel), by decide, rfl⟩)⟩
set_option maxRecDepth 100000 in
theorem pg_m38 : mm_mok pg_S 38 := ⟨⟨by decide +kernel, List.mem_of_getElem? (i := 245) (by decide +kernel), List.mem_of_getElem? (i := 31) (by decide +kernel), by decide +kernel, by decide +kernel⟩, ⟨by decide, by decide⟩, Or.inr (Or.inl ⟨rfl, rfl⟩), Or.inr (Or.inl ⟨rfl, by decide +kernel, List.mem_of_getElem? (i := 243) (by decide +kernel), List.mem_of_getElem? (i := 244) (by decide +kernel), by decide, rfl⟩)⟩
set_option maxRecDepth 100000 in
theorem pg_m39 : mm_mok pg_S 39 := ⟨⟨by decide +kernel, List.mem_of_getElem? (i := 249) (by decide +kernel), List.mem_of_getElem? (i := 31) (by decide +kernel), by decide +kernel, by decide +kernel⟩, ⟨by decide, by decide⟩, Or.inr (Or.inl ⟨rfl, rfl⟩), Or.inr (Or.inl ⟨rfl, by decide +kernel, List.mem_of_getElem? (i := 247) (by decide +kernel), List.mem_of_getElem? (i := 248) (by decide +kernel), by decide, rfl⟩)⟩
set_option maxRecDepth 100000 in
theorem pg_m40 : mm_mok pg_S 40 := ⟨⟨by decide +kernel, List.mem_of_getElem? (i := 265) (by decide +kernel), List.mem_of_getElem? (i := 31) (by decide +kernel), by decide +kernel, by decide +kernel⟩, ⟨by decide, by decide⟩, Or.inr (Or.inr ⟨rfl, rfl⟩), Or.inr (Or.inl ⟨rfl, by decide +kernel, List.mem_of_getElem? (i := 263) (by decide +kernel), List.mem_of_getElem? (i := 264) (by decide +kernel), by decide, rfl⟩)⟩
set_option maxRecDepth 100000 in
theorem pg_m41 : mm_mok pg_S 41 := ⟨⟨by decide +kernel, List.mem_of_getElem? (i := 277) (by decide +kernel), List.mem_of_getElem? (i := 31) (by decide +kernel), by decide +kernel, by decide +kernel⟩, ⟨by decide, by decide⟩, Or.inr (Or.inl ⟨rfl, rfl⟩), Or.inr (Or.inl ⟨rfl, by decide +kernel, List.mem_of_getElem? (i := 275) (by decide +kernel), List.mem_of_getElem? (i := 276) (by decide +kernel), by decide, rfl⟩)⟩
set_option maxRecDepth 100000 in
theorem pg_m42 : mm_mok pg_S 42 := ⟨⟨by decide +kernel, List.mem_of_getElem? (i := 356) (by decide +kernel), List.mem_of_getElem? (i := 31) (by decide +kernel), by decide +kernel, by decide +kernel⟩, ⟨by decide, by decide⟩, Or.inr (Or.inl ⟨rfl, rfl⟩), Or.inr (Or.inl ⟨rfl, by decide +kernel, List.mem_of_getElem? (i := 354) (by decide +kernel), List.mem_of_getElem? (i := 355) (by decide +kernel), by decide, rfl⟩)⟩
set_option maxRecDepth 100000 in
theorem pg_m43 : mm_mok pg_S 43 := ⟨⟨by decide +kernel, List.mem_of_getElem? (i := 360) (by decide +kernel), List.mem_of_getElem? (i := 31) (by decide +kernel), by decide +kernel, by decide +kernel⟩, ⟨by decide, by decide⟩, Or.inr (Or.inl ⟨rfl, rfl⟩), Or.inr (Or.inl ⟨rfl, by decide +kernel, List.mem_of_getElem? (i := 358) (by decide +kernel), List.mem_of_getElem? (i := 359) (by decide +kernel), by decide, rfl⟩)⟩
set_option maxRecDepth 100000 in
theorem pg_m44 : mm_mok pg_S 44 := ⟨⟨by decide +kernel, List.mem_of_getElem? (i := 365) (by decide +kernel), List.mem_of_getElem? (i := 31) (by decide +kernel), by decide +kernel, by decide +kernel⟩, ⟨by decide, by decide⟩, Or.inr (Or.inl ⟨rfl, rfl⟩), Or.inr (Or.inl ⟨rfl, by decide +kernel, List.mem_of_getElem? (i := 363) (by decide +kernel), List.mem_of_getElem? (i := 364) (by decide +kernel), by decide, rfl⟩)⟩
set_option maxRecDepth 100000 in
theorem pg_m45 : mm_mok pg_S 45 := ⟨⟨by decide +kernel, List.mem_of_getElem? (i := 372) (by decide +kernel), List.mem_of_getElem? (i := 31) (by decide +kernel), by decide +kernel, by decide +kernel⟩, ⟨by decide, by decide⟩, Or.inr (Or.inl ⟨rfl, rfl⟩), Or.inr (Or.inl ⟨rfl, by decide +kernel, List.mem_of_getElem? (i := 370) (by decide +kernel), List.mem_of_getElem? (i := 371) (by decide +kernel), by decide, rfl⟩)⟩
set_option maxRecDepth 100000 in
theorem pg_m46 : mm_mok pg_S 46 := ⟨⟨by decide +kernel, List.mem_of_getElem? (i := 380) (by decide +kernel), List.mem_of_getElem? (i := 31) (by decide +kernel), by decide +kernel, by decide +kernel⟩, ⟨by decide, by decide⟩, Or.inr (Or.inl ⟨rfl, rfl⟩), Or.inr (Or.inl ⟨rfl, by decide +kernel, List.mem_of_getElem? (i := 378) (by decide +kernel), List.mem_of_getElem? (i := 379) (by decide +kernel), by decide, rfl⟩)⟩
set_option maxRecDepth 100000 in
theorem pg_m47 : mm_mok pg_S 47 := ⟨⟨by decide +kernel, List.mem_of_getElem? (i := 384) (by decide +kernel), List.mem_of_getElem? (i := 31) (by decide +kernel), by decide +kernel, by decide +kernel⟩, ⟨by decide, by decide⟩, Or.inr (Or.inl ⟨rfl, rfl⟩), Or.inr (Or.inl ⟨rfl, by decide +kernel, List.mem_of_getElem? (i := 382) (by decide +kernel), List.mem_of_getElem? (i := 383) (by decide +kernel), by decide, rfl⟩)⟩
set_option maxRecDepth 100000 in
theorem pg_m48 : mm_mok pg_S 48 := ⟨⟨by decide +kernel, List.mem_of_getElem? (i := 392) (by decide +kernel), List.mem_of_getElem? (i := 31) (by decide +kernel), by decide +kernel, by decide +kernel⟩, ⟨by decide, by decide⟩, Or.inr (Or.inl ⟨rfl, rfl⟩), Or.inr (Or.inl ⟨rfl, by decide +kernel, List.mem_of_getElem? (i := 390) (by decide +kernel), List.mem_of_getElem? (i := 391) (by decide +kernel), by decide, rfl⟩)⟩
set_option maxRecDepth 100000 in
theorem pg_m49 : mm_mok pg_S 49 := ⟨⟨by decide +kernel, List.mem_of_getElem? (i := 396) (by decide +kernel), List.mem_of_getElem? (i := 31) (by decide +kernel), by decide +kernel, by decide +kernel⟩, ⟨by decide, by decide⟩, Or.inr (Or.inl ⟨rfl, rfl⟩), Or.inr (Or.inl ⟨rfl, by decide +kernel, List.mem_of_getElem? (i := 394) (by decide +kernel), List.mem_of_getElem? (i := 395) (by decide +kernel), by decide, rfl⟩)⟩
set_option maxRecDepth 100000 in
theorem pg_m50 : mm_mok pg_S 50 := ⟨⟨by decide +kernel, List.mem_of_getElem? (i := 400) (by decide +kernel), List.mem_of_getElem? (i := 31) (by decide +kernel), by decide +kernel, by decide +kernel⟩, ⟨by decide, by decide⟩, Or.inr (Or.inl ⟨rfl, rfl⟩), Or.inr (Or.inl ⟨rfl, by decide +kernel, List.mem_of_getElem? (i := 398) (by decide +kernel), List.mem_of_getElem? (i := 399) (by decide +kernel), by decide, rfl⟩)⟩
set_option maxRecDepth 100000 in
theorem pg_m51 : mm_mok pg_S 51 := ⟨⟨by decide +kernel, List.mem_of_getElem? (i := 412) (by decide +kernel), List.mem_of_getElem? (i := 31) (by decide +kernel), by decide +kernel, by decide +kernel⟩, ⟨by decide, by decide⟩, Or.inr (Or.inl ⟨rfl, rfl⟩), Or.inr (Or.inl ⟨rfl, by decide +kernel, List.mem_of_getElem? (i := 410) (by decide +kernel), List.mem_of_getElem? (i := 411) (by decide +kernel), by decide, rfl⟩)⟩
set_option maxRecDepth 100000 in
theorem pg_m52 : mm_mok pg_S 52 := ⟨⟨by decide +kernel, List.mem_of_getElem? (i := 174) (by decide +kernel), List.mem_of_getElem? (i := 31) (by decide +kernel), by decide +kernel, by decide +kernel⟩, ⟨by decide, by decide⟩, Or.inr (Or.inr ⟨rfl, rfl⟩), Or.inr (Or.inl ⟨rfl, by decide +kernel, List.mem_of_getElem? (i := 173) (by decide +kernel), List.mem_of_getElem? (i := 0) (by decide +kernel), by decide, rfl⟩)⟩
set_option maxRecDepth 100000 in
theorem pg_m53 : mm_mok pg_S 53 := ⟨⟨by decide +kernel, List.mem_of_getElem? (i := 177) (by decide +kernel), List.mem_of_getElem? (i := 31) (by decide +kernel), by decide +kernel, by decide +kernel⟩, ⟨by decide, by decide⟩, Or.inr (Or.inr ⟨rfl, rfl⟩), Or.inl ⟨rfl, by decide +kernel, List.mem_of_getElem? (i := 176) (by decide +kernel)⟩⟩
set_option maxRecDepth 100000 in
theorem pg_m54 : mm_mok pg_S 54 := ⟨⟨by decide +kernel, List.mem_of_getElem? (i := 415) (by decide +kernel), List.mem_of_getElem? (i := 31) (by decide +kernel), by decide +kernel, by decide +kernel⟩, ⟨by decide, by decide⟩, Or.inr (Or.inl ⟨rfl, rfl⟩), Or.inr (Or.inl ⟨rfl, by decide +kernel, List.mem_of_getElem? (i := 414) (by decide +kernel), List.mem_of_getElem? (i := 14) (by decide +kernel), by decide, rfl⟩)⟩
set_option maxRecDepth 100000 in
theorem pg_m55 : mm_mok pg_S 55 := ⟨⟨by decide +kernel, List.mem_of_getElem? (i := 229) (by decide +kernel), List.mem_of_getElem? (i := 31) (by decide +kernel), by decide +kernel, by decide +kernel⟩, ⟨by decide, by decide⟩, Or.inr (Or.inr ⟨rfl, rfl⟩), Or.inr (Or.inl ⟨rfl, by decide +kernel, List.mem_of_getElem? (i := 228) (by decide +kernel), List.mem_of_getElem? (i := 1) (by decide +kernel), by decide, rfl⟩)⟩
set_option maxRecDepth 100000 in
theorem pg_m56 : mm_mok pg_S 56 := ⟨⟨by decide +kernel, List.mem_of_getElem? (i := 232) (by decide +kernel), List.mem_of_getElem? (i := 31) (by decide +kernel), by decide +kernel, by decide +kernel⟩, ⟨by decide, by decide⟩, Or.inr (Or.inl ⟨rfl, rfl⟩), Or.inr (Or.inl ⟨rfl, by decide +kernel, List.mem_of_getElem? (i := 231) (by decide +kernel), List.mem_of_getElem? (i := 2) (by decide +kernel), by decide, rfl⟩)⟩
set_option maxRecDepth 100000 in
theorem pg_m57 : mm_mok pg_S 57 := ⟨⟨by decide +kernel, List.mem_of_getElem? (i := 286) (by decide +kernel), List.mem_of_getElem? (i := 31) (by decide +kernel), by decide +kernel, by decide +kernel⟩, ⟨by decide, by decide⟩, Or.inr (Or.inr ⟨rfl, rfl⟩), Or.inr (Or.inl ⟨rfl, by decide +kernel, List.mem_of_getElem? (i := 285) (by decide +kernel), List.mem_of_getElem? (i := 5) (by decide +kernel), by decide, rfl⟩)⟩
set_option maxRecDepth 100000 in
theorem pg_m58 : mm_mok pg_S 58 := ⟨⟨by decide +kernel, List.mem_of_getElem? (i := 292) (by decide +kernel), List.mem_of_getElem? (i := 31) (by decide +kernel), by decide +kernel, by decide +kernel⟩, ⟨by decide, by decide⟩, Or.inr (Or.inl ⟨rfl, rfl⟩), Or.inr (Or.inl ⟨rfl, by decide +kernel, List.mem_of_getElem? (i := 291) (by decide +kernel), List.mem_of_getElem? (i := 7) (by decide +kernel), by decide, rfl⟩)⟩
set_option maxRecDepth 100000 in
theorem pg_m59 : mm_mok pg_S 59 := ⟨⟨by decide +kernel, List.mem_of_getElem? (i := 289) (by decide +kernel), List.mem_of_getElem? (i := 31) (by decide +kernel), by decide +kernel, by decide +kernel⟩, ⟨by decide, by decide⟩, Or.inr (Or.inr ⟨rfl, rfl⟩), Or.inr (Or.inl ⟨rfl, by decide +kernel, List.mem_of_getElem? (i := 288) (by decide +kernel), List.mem_of_getElem? (i := 6) (by decide +kernel), by decide, rfl⟩)⟩
set_option maxRecDepth 100000 in
theorem pg_m60 : mm_mok pg_S 60 := ⟨⟨by decide +kernel, List.mem_of_getElem? (i := 368) (by decide +kernel), List.mem_of_getElem? (i := 31) (by decide +kernel), by decide +kernel, by decide +kernel⟩, ⟨by decide, by decide⟩, Or.inr (Or.inl ⟨rfl, rfl⟩), Or.inr (Or.inl ⟨rfl, by decide +kernel, List.mem_of_getElem? (i := 367) (by decide +kernel), List.mem_of_getElem? (i := 13) (by decide +kernel), by decide, rfl⟩)⟩
set_option maxRecDepth 100000 in
theorem pg_m61 : mm_mok pg_S 61 := ⟨⟨by decide +kernel, List.mem_of_getElem? (i := 283) (by decide +kernel), List.mem_of_getElem? (i := 31) (by decide +kernel), by decide +kernel, by decide +kernel⟩, ⟨by decide, by decide⟩, Or.inr (Or.inl ⟨rfl, rfl⟩), Or.inr (Or.inl ⟨rfl, by decide +kernel, List.mem_of_getElem? (i := 282) (by decide +kernel), List.mem_of_getElem? (i := 4) (by decide +kernel), by decide, rfl⟩)⟩
set_option maxRecDepth 100000 in
theorem pg_m62 : mm_mok pg_S 62 := ⟨⟨by decide +kernel, List.mem_of_getElem? (i := 302) (by decide +kernel), List.mem_of_getElem? (i := 31) (by decide +kernel), by decide +kernel, by decide +kernel⟩, ⟨by decide, by decide⟩, Or.inr (Or.inl ⟨rfl, rfl⟩), Or.inr (Or.inl ⟨rfl, by decide +kernel, List.mem_of_getElem? (i := 301) (by decide +kernel), List.mem_of_getElem? (i := 9) (by decide +kernel), by decide, rfl⟩)⟩
set_option maxRecDepth 100000 in
theorem pg_m63 : mm_mok pg_S 63 := ⟨⟨by decide +kernel, List.mem_of_getElem? (i := 280) (by decide +kernel), List.mem_of_getElem? (i := 31) (by decide +kernel), by decide +kernel, by decide +kernel⟩, ⟨by decide, by decide⟩, Or.inl ⟨rfl, rfl⟩, Or.inr (Or.inl ⟨rfl, by decide +kernel, List.mem_of_getElem? (i := 279) (by decide +kernel), List.mem_of_getElem? (i := 3) (by decide +kernel), by decide, rfl⟩)⟩
set_option maxRecDepth 100000 in
theorem pg_m64 : mm_mok pg_S 64 := ⟨⟨by decide +kernel, List.mem_of_getElem? (i := 295) (by decide +kernel), List.mem_of_getElem? (i := 31) (by decide +kernel), by decide +kernel, by decide +kernel⟩, ⟨by decide, by decide⟩, Or.inr (Or.inl ⟨rfl, rfl⟩), Or.inr (Or.inl ⟨rfl, by decide +kernel, List.mem_of_getElem? (i := 294) (by decide +kernel), List.mem_of_getElem? (i := 8) (by decide +kernel), by decide, rfl⟩)⟩
set_option maxRecDepth 100000 in
theorem pg_m65 : mm_mok pg_S 65 := ⟨⟨by decide +kernel, List.mem_of_getElem? (i := 322) (by decide +kernel), List.mem_of_getElem? (i := 31) (by decide +kernel), by decide +kernel, by decide +kernel⟩, ⟨by decide, by decide⟩, Or.inl ⟨rfl, rfl⟩, Or.inr (Or.inl ⟨rfl, by decide +kernel, List.mem_of_getElem? (i := 321) (by decide +kernel), List.mem_of_getElem? (i := 10) (by decide +kernel), by decide, rfl⟩)⟩
set_option maxRecDepth 100000 in
theorem pg_m66 : mm_mok pg_S 66 := ⟨⟨by decide +kernel, List.mem_of_getElem? (i := 337) (by decide +kernel), List.mem_of_getElem? (i := 31) (by decide +kernel), by decide +kernel, by decide +kernel⟩, ⟨by decide, by decide⟩, Or.inl ⟨rfl, rfl⟩, Or.inr (Or.inl ⟨rfl, by decide +kernel, List.mem_of_getElem? (i := 336) (by decide +kernel), List.mem_of_getElem? (i := 11) (by decide +kernel), by decide, rfl⟩)⟩
set_option maxRecDepth 100000 in
theorem pg_m67 : mm_mok pg_S 67 := ⟨⟨by decide +kernel, List.mem_of_getElem? (i := 352) (by decide +kernel), List.mem_of_getElem? (i := 31) (by decide +kernel), by decide +kernel, by decide +kernel⟩, ⟨by decide, by decide⟩, Or.inl ⟨rfl, rfl⟩, Or.inr (Or.inl ⟨rfl, by decide +kernel, List.mem_of_getElem? (i := 351) (by decide +kernel), List.mem_of_getElem? (i := 12) (by decide +kernel), by decide, rfl⟩)⟩
set_option maxRecDepth 100000 in
theorem pg_m68 : mm_mok pg_S 68 := ⟨⟨by decide +kernel, List.mem_of_getElem? (i := 420) (by decide +kernel), List.mem_of_getElem? (i := 34) (by decide +kernel), by decide +kernel, by decide +kernel⟩, ⟨by decide, by decide⟩, Or.inl ⟨rfl, rfl⟩, Or.inr (Or.inr ⟨Or.inl rfl, by decide +kernel, List.mem_of_getElem? (i := 419) (by decide +kernel), rfl, rfl⟩)⟩
set_option maxRecDepth 100000 in
theorem pg_m69 : mm_mok pg_S 69 := ⟨⟨by decide +kernel, List.mem_of_getElem? (i := 498) (by decide +kernel), List.mem_of_getElem? (i := 34) (by decide +kernel), by decide +kernel, by decide +kernel⟩, ⟨by decide, by decide⟩, Or.inr (Or.inr ⟨rfl, rfl⟩), Or.inl ⟨rfl, by decide +kernel, List.mem_of_getElem? (i := 497) (by decide +kernel)⟩⟩
set_option maxRecDepth 100000 in
theorem pg_m70 : mm_mok pg_S 70 := ⟨⟨by decide +kernel, List.mem_of_getElem? (i := 495) (by decide +kernel), List.mem_of_getElem? (i := 34) (by decide +kernel), by decide +kernel, by decide +kernel⟩, ⟨by decide, by decide⟩, Or.inr (Or.inl ⟨rfl, rfl⟩), Or.inr (Or.inl ⟨rfl, by decide +kernel, List.mem_of_getElem? (i := 493) (by decide +kernel), List.mem_of_getElem? (i := 494) (by decide +kernel), by decide, rfl⟩)⟩
set_option maxRecDepth 100000 in
theorem pg_m71 : mm_mok pg_S 71 := ⟨⟨by decide +kernel, List.mem_of_getElem? (i := 505) (by decide +kernel), List.mem_of_getElem? (i := 34) (by decide +kernel), by decide +kernel, by decide +kernel⟩, ⟨by decide, by decide⟩, Or.inr (Or.inr ⟨rfl, rfl⟩), Or.inr (Or.inl ⟨rfl, by decide +kernel, List.mem_of_getElem? (i := 504) (by decide +kernel), List.mem_of_getElem? (i := 15) (by decide +kernel), by decide, rfl⟩)⟩
set_option maxRecDepth 100000 in
theorem pg_m72 : mm_mok pg_S 72 := ⟨⟨by decide +kernel, List.mem_of_getElem? (i := 502) (by decide +kernel), List.mem_of_getElem? (i := 34) (by decide +kernel), by decide +kernel, by decide +kernel⟩, ⟨by decide, by decide⟩, Or.inr (Or.inr ⟨rfl, rfl⟩), Or.inr (Or.inl ⟨rfl, by decide +kernel, List.mem_of_getElem? (i := 500) (by decide +kernel), List.mem_of_getElem? (i := 501) (by decide +kernel), by decide, rfl⟩)⟩
set_option maxRecDepth 100000 in
theorem pg_m73 : mm_mok pg_S 73 := ⟨⟨by decide +kernel, List.mem_of_getElem? (i := 509) (by decide +kernel), List.mem_of_getElem? (i := 34) (by decide +kernel), by decide +kernel, by decide +kernel⟩, ⟨by decide, by decide⟩, Or.inr (Or.inr ⟨rfl, rfl⟩), Or.inr (Or.inl ⟨rfl, by decide +kernel, List.mem_of_getElem? (i := 507) (by decide +kernel), List.mem_of_getElem? (i := 508) (by decide +kernel), by decide, rfl⟩)⟩
set_option maxRecDepth 100000 in
theorem pg_m74 : mm_mok pg_S 74 := ⟨⟨by decide +kernel, List.mem_of_getElem? (i := 513) (by decide +kernel), List.mem_of_getElem? (i := 34) (by decide +kernel), by decide +kernel, by decide +kernel⟩, ⟨by decide, by decide⟩, Or.inr (Or.inr ⟨rfl, rfl⟩), Or.inr (Or.inl ⟨rfl, by decide +kernel, List.mem_of_getElem? (i := 511) (by decide +kernel), List.mem_of_getElem? (i := 512) (by decide +kernel), by decide, rfl⟩)⟩
set_option maxRecDepth 100000 in
theorem pg_m75 : mm_mok pg_S 75 := ⟨⟨by decide +kernel, List.mem_of_getElem? (i := 520) (by decide +kernel), List.mem_of_getElem? (i := 34) (by decide +kernel), by decide +kernel, by decide +kernel⟩, ⟨by decide, by decide⟩, Or.inr (Or.inl ⟨rfl, rfl⟩), Or.inr (Or.inl ⟨rfl, by decide +kernel, List.mem_of_getElem? (i := 519) (by decide +kernel), List.mem_of_getElem? (i := 16) (by decide +kernel), by decide, rfl⟩)⟩
set_option maxRecDepth 100000 in
theorem pg_m76 : mm_mok pg_S 76 := ⟨⟨by decide +kernel, List.mem_of_getElem? (i := 517) (by decide +kernel), List.mem_of_getElem? (i := 34) (by decide +kernel), by decide +kernel, by decide +kernel⟩, ⟨by decide, by decide⟩, Or.inr (Or.inl ⟨rfl, rfl⟩), Or.inr (Or.inl ⟨rfl, by decide +kernel, List.mem_of_getElem? (i := 515) (by decide +kernel), List.mem_of_getElem? (i := 516) (by decide +kernel), by decide, rfl⟩)⟩
set_option maxRecDepth 100000 in
theorem pg_m77 : mm_mok pg_S 77 := ⟨⟨by decide +kernel, List.mem_of_getElem? (i := 530) (by decide +kernel), List.mem_of_getElem? (i := 34) (by decide +kernel), by decide +kernel, by decide +kernel⟩, ⟨by decide, by decide⟩, Or.inr (Or.inl ⟨rfl, rfl⟩), Or.inr (Or.inl ⟨rfl, by decide +kernel, List.mem_of_getElem? (i := 529) (by decide +kernel), List.mem_of_getElem? (i := 18) (by decide +kernel), by decide, rfl⟩)⟩
set_option maxRecDepth 100000 in
theorem pg_m78 : mm_mok pg_S 78 := ⟨⟨by decide +kernel, List.mem_of_getElem? (i := 527) (by decide +kernel), List.mem_of_getElem? (i := 34) (by decide +kernel), by decide +kernel, by decide +kernel⟩, ⟨by decide, by decide⟩, Or.inr (Or.inr ⟨rfl, rfl⟩), Or.inr (Or.inl ⟨rfl, by decide +kernel, List.mem_of_getElem? (i := 526) (by decide +kernel), List.mem_of_getElem? (i := 17) (by decide +kernel), by decide, rfl⟩)⟩
set_option maxRecDepth 100000 in
theorem pg_m79 : mm_mok pg_S 79 := ⟨⟨by decide +kernel, List.mem_of_getElem? (i := 524) (by decide +kernel), List.mem_of_getElem? (i := 34) (by decide +kernel), by decide +kernel, by decide +kernel⟩, ⟨by decide, by decide⟩, Or.inr (Or.inl ⟨rfl, rfl⟩), Or.inr (Or.inl ⟨rfl, by decide +kernel, List.mem_of_getElem? (i := 522) (by decide +kernel), List.mem_of_getElem? (i := 523) (by decide +kernel), by decide, rfl⟩)⟩
set_option maxRecDepth 100000 in
theorem pg_m80 : mm_mok pg_S 80 := ⟨⟨by decide +kernel, List.mem_of_getElem? (i := 535) (by decide +kernel), List.mem_of_getElem? (i := 34) (by decide +kernel), by decide +kernel, by decide +kernel⟩, ⟨by decide, by decide⟩, Or.inr (Or.inl ⟨rfl, rfl⟩), Or.inr (Or.inl ⟨rfl, by decide +kernel, List.mem_of_getElem? (i := 533) (by decide +kernel), List.mem_of_getElem? (i := 534) (by decide +kernel), by decide, rfl⟩)⟩
set_option maxRecDepth 100000 in
theorem pg_m81 : mm_mok pg_S 81 := ⟨⟨by decide +kernel, List.mem_of_getElem? (i := 539) (by decide +kernel), List.mem_of_getElem? (i := 34) (by decide +kernel), by decide +kernel, by decide +kernel⟩, ⟨by decide, by decide⟩, Or.inr (Or.inr ⟨rfl, rfl⟩), Or.inr (Or.inl ⟨rfl, by decide +kernel, List.mem_of_getElem? (i := 537) (by decide +kernel), List.mem_of_getElem? (i := 538) (by decide +kernel), by decide, rfl⟩)⟩
set_option maxRecDepth 100000 in
theorem pg_m82 : mm_mok pg_S 82 := ⟨⟨by decide +kernel, List.mem_of_getElem? (i := 567) (by decide +kernel), List.mem_of_getElem? (i := 34) (by decide +kernel), by decide +kernel, by decide +kernel⟩, ⟨by decide, by decide⟩, Or.inr (Or.inr ⟨rfl, rfl⟩), Or.inr (Or.inl ⟨rfl, by decide +kernel, List.mem_of_getElem? (i := 566) (by decide +kernel), List.mem_of_getElem? (i := 23) (by decide +kernel), by decide, rfl⟩)⟩
set_option maxRecDepth 100000 in
theorem pg_m83 : mm_mok pg_S 83 := ⟨⟨by decide +kernel, List.mem_of_getElem? (i := 573) (by decide +kernel), List.mem_of_getElem? (i := 34) (by decide +kernel), by decide +kernel, by decide +kernel⟩, ⟨by decide, by decide⟩, Or.inr (Or.inl ⟨rfl, rfl⟩), Or.inr (Or.inl ⟨rfl, by decide +kernel, List.mem_of_getElem? (i := 572) (by decide +kernel), List.mem_of_getElem? (i := 25) (by decide +kernel), by decide, rfl⟩)⟩
set_option maxRecDepth 100000 in
theorem pg_m84 : mm_mok pg_S 84 := ⟨⟨by decide +kernel, List.mem_of_getElem? (i := 570) (by decide +kernel), List.mem_of_getElem? (i := 34) (by decide +kernel), by decide +kernel, by decide +kernel⟩, ⟨by decide, by decide⟩, Or.inr (Or.inr ⟨rfl, rfl⟩), Or.inr (Or.inl ⟨rfl, by decide +kernel, List.mem_of_getElem? (i := 569) (by decide +kernel), List.mem_of_getElem? (i := 24) (by decide +kernel), by decide, rfl⟩)⟩
set_option maxRecDepth 100000 in
theorem pg_m85 : mm_mok pg_S 85 := ⟨⟨by decide +kernel, List.mem_of_getElem? (i := 564) (by decide +kernel), List.mem_of_getElem? (i := 34) (by decide +kernel), by decide +kernel, by decide +kernel⟩, ⟨by decide, by decide⟩, Or.inr (Or.inl ⟨rfl, rfl⟩), Or.inr (Or.inl ⟨rfl, by decide +kernel, List.mem_of_getElem? (i := 563) (by decide +kernel), List.mem_of_getElem? (i := 22) (by decide +kernel), by decide, rfl⟩)⟩
set_option maxRecDepth 100000 in
theorem pg_m86 : mm_mok pg_S 86 := ⟨⟨by decide +kernel, List.mem_of_getElem? (i := 546) (by decide +kernel), List.mem_of_getElem? (i := 34) (by decide +kernel), by decide +kernel, by decide +kernel⟩, ⟨by decide, by decide⟩, Or.inr (Or.inr ⟨rfl, rfl⟩), Or.inr (Or.inl ⟨rfl, by decide +kernel, List.mem_of_getElem? (i := 545) (by decide +kernel), List.mem_of_getElem? (i := 19) (by decide +kernel), by decide, rfl⟩)⟩
set_option maxRecDepth 100000 in
theorem pg_m87 : mm_mok pg_S 87 := ⟨⟨by decide +kernel, List.mem_of_getElem? (i := 583) (by decide +kernel), List.mem_of_getElem? (i := 34) (by decide +kernel), by decide +kernel, by decide +kernel⟩, ⟨by decide, by decide⟩, Or.inr (Or.inr ⟨rfl, rfl⟩), Or.inr (Or.inl ⟨rfl, by decide +kernel, List.mem_of_getElem? (i := 582) (by decide +kernel), List.mem_of_getElem? (i := 28) (by decide +kernel), by decide, rfl⟩)⟩
set_option maxRecDepth 100000 in
theorem pg_m88 : mm_mok pg_S 88 := ⟨⟨by decide +kernel, List.mem_of_getElem? (i := 543) (by decide +kernel), List.mem_of_getElem? (i := 34) (by decide +kernel), by decide +kernel, by decide +kernel⟩, ⟨by decide, by decide⟩, Or.inr (Or.inl ⟨rfl, rfl⟩), Or.inr (Or.inl ⟨rfl, by decide +kernel, List.mem_of_getElem? (i := 541) (by decide +kernel), List.mem_of_getElem? (i := 542) (by decide +kernel), by decide, rfl⟩)⟩
set_option maxRecDepth 100000 in
theorem pg_m89 : mm_mok pg_S 89 := ⟨⟨by decide +kernel, List.mem_of_getElem? (i := 550) (by decide +kernel), List.mem_of_getElem? (i := 34) (by decide +kernel), by decide +kernel, by decide +kernel⟩, ⟨by decide, by decide⟩, Or.inr (Or.inl ⟨rfl, rfl⟩), Or.inr (Or.inl ⟨rfl, by decide +kernel, List.mem_of_getElem? (i := 548) (by decide +kernel), List.mem_of_getElem? (i := 549) (by decide +kernel), by decide, rfl⟩)⟩
set_option maxRecDepth 100000 in
theorem pg_m90 : mm_mok pg_S 90 := ⟨⟨by decide +kernel, List.mem_of_getElem? (i := 561) (by decide +kernel), List.mem_of_getElem? (i := 34) (by decide +kernel), by decide +kernel, by decide +kernel⟩, ⟨by decide, by decide⟩, Or.inr (Or.inl ⟨rfl, rfl⟩), Or.inr (Or.inl ⟨rfl, by decide +kernel, List.mem_of_getElem? (i := 560) (by decide +kernel), List.mem_of_getElem? (i := 21) (by decide +kernel), by decide, rfl⟩)⟩
set_option maxRecDepth 100000 in
theorem pg_m91 : mm_mok pg_S 91 := ⟨⟨by decide +kernel, List.mem_of_getElem? (i := 577) (by decide +kernel), List.mem_of_getElem? (i := 34) (by decide +kernel), by decide +kernel, by decide +kernel⟩, ⟨by decide, by decide⟩, Or.inr (Or.inl ⟨rfl, rfl⟩), Or.inr (Or.inl ⟨rfl, by decide +kernel, List.mem_of_getElem? (i := 576) (by decide +kernel), List.mem_of_getElem? (i := 26) (by decide +kernel), by decide, rfl⟩)⟩
set_option maxRecDepth 100000 in
theorem pg_m92 : mm_mok pg_S 92 := ⟨⟨by decide +kernel, List.mem_of_getElem? (i := 586) (by decide +kernel), List.mem_of_getElem? (i := 34) (by decide +kernel), by decide +kernel, by decide +kernel⟩, ⟨by decide, by decide⟩, Or.inl ⟨rfl, rfl⟩, Or.inr (Or.inl ⟨rfl, by decide +kernel, List.mem_of_getElem? (i := 585) (by decide +kernel), List.mem_of_getElem? (i := 29) (by decide +kernel), by decide, rfl⟩)⟩
set_option maxRecDepth 100000 in
theorem pg_m93 : mm_mok pg_S 93 := ⟨⟨by decide +kernel, List.mem_of_getElem? (i := 580) (by decide +kernel), List.mem_of_getElem? (i := 34) (by decide +kernel), by decide +kernel, by decide +kernel⟩, ⟨by decide, by decide⟩, Or.inr (Or.inl ⟨rfl, rfl⟩), Or.inr (Or.inl ⟨rfl, by decide +kernel, List.mem_of_getElem? (i := 579) (by decide +kernel), List.mem_of_getElem? (i := 27) (by decide +kernel), by decide, rfl⟩)⟩
set_option maxRecDepth 100000 in
theorem pg_m94 : mm_mok pg_S 94 := ⟨⟨by decide +kernel, List.mem_of_getElem? (i := 558) (by decide +kernel), List.mem_of_getElem? (i := 34) (by decide +kernel), by decide +kernel, by decide +kernel⟩, ⟨by decide, by decide⟩, Or.inr (Or.inl ⟨rfl, rfl⟩), Or.inr (Or.inl ⟨rfl, by decide +kernel, List.mem_of_getElem? (i := 557) (by decide +kernel), List.mem_of_getElem? (i := 20) (by decide +kernel), by decide, rfl⟩)⟩
set_option maxRecDepth 100000 in
theorem pg_m95 : mm_mok pg_S 95 := ⟨⟨by decide +kernel, List.mem_of_getElem? (i := 555) (by decide +kernel), List.mem_of_getElem? (i := 34) (by decide +kernel), by decide +kernel, by decide +kernel⟩, ⟨by decide, by decide⟩, Or.inr (Or.inl ⟨rfl, rfl⟩), Or.inr (Or.inl ⟨rfl, by decide +kernel, List.mem_of_getElem? (i := 553) (by decide +kernel), List.mem_of_getElem? (i := 554) (by decide +kernel), by decide, rfl⟩)⟩
set_option maxRecDepth 100000 in
theorem pg_m96 : mm_mok pg_S 96 := ⟨⟨by decide +kernel, List.mem_of_getElem? (i := 590) (by decide +kernel), List.mem_of_getElem? (i := 34) (by decide +kernel), by decide +kernel, by decide +kernel⟩, ⟨by decide, by decide⟩, Or.inr (Or.inl ⟨rfl, rfl⟩), Or.inr (Or.inl ⟨rfl, by decide +kernel, List.mem_of_getElem? (i := 588) (by decide +kernel), List.mem_of_getElem? (i := 589) (by decide +kernel), by decide, rfl⟩)⟩
set_option maxRecDepth 100000 in
theorem pg_m97 : mm_mok pg_S 97 := ⟨⟨by decide +kernel, List.mem_of_getElem? (i := 594) (by decide +kernel), List.mem_of_getElem? (i := 34) (by decide +kernel), by decide +kernel, by decide +kernel⟩, ⟨by decide, by decide⟩, Or.inr (Or.inl ⟨rfl, rfl⟩), Or.inr (Or.inl ⟨rfl, by decide +kernel, List.mem_of_getElem? (i := 592) (by decide +kernel), List.mem_of_getElem? (i := 593) (by decide +kernel), by decide, rfl⟩)⟩
set_option maxRecDepth 100000 in
theorem pg_m98 : mm_mok pg_S 98 := ⟨⟨by decide +kernel, List.mem_of_getElem? (i := 598) (by decide +kernel), List.mem_of_getElem? (i := 34) (by decide +kernel), by decide +kernel, by decide +kernel⟩, ⟨by decide, by decide⟩, Or.inr (Or.inl ⟨rfl, rfl⟩), Or.inr (Or.inl ⟨rfl, by decide +kernel, List.mem_of_getElem? (i := 596) (by decide +kernel), List.mem_of_getElem? (i := 597) (by decide +kernel), by decide, rfl⟩)⟩
set_option maxRecDepth 100000 in
theorem pg_m99 : mm_mok pg_S 99 := ⟨⟨by decide +kernel, List.mem_of_getElem? (i := 602) (by decide +kernel), List.mem_of_getElem? (i := 34) (by decide +kernel), by decide +kernel, by decide +kernel⟩, ⟨by decide, by decide⟩, Or.inr (Or.inl ⟨rfl, rfl⟩), Or.inr (Or.inl ⟨rfl, by decide +kernel, List.mem_of_getElem? (i := 600) (by decide +kernel), List.mem_of_getElem? (i := 601) (by decide +kernel), by decide, rfl⟩)⟩
set_option maxRecDepth 100000 in
theorem pg_m100 : mm_mok pg_S 100 := ⟨⟨by decide +kernel, List.mem_of_getElem? (i := 606) (by decide +kernel), List.mem_of_getElem? (i := 34) (by decide +kernel), by decide +kernel, by decide +kernel⟩, ⟨by decide, by decide⟩, Or.inr (Or.inl ⟨rfl, rfl⟩), Or.inr (Or.inl ⟨rfl, by decide +kernel, List.mem_of_getElem? (i := 604) (by decide +kernel), List.mem_of_getElem? (i := 605) (by decide +kernel), by decide, rfl⟩)⟩
set_option maxRecDepth 100000 in
theorem pg_m101 : mm_mok pg_S 101 := ⟨⟨by decide +kernel, List.mem_of_getElem? (i := 610) (by decide +kernel), List.mem_of_getElem? (i := 34) (by decide +kernel), by decide +kernel, by decide +kernel⟩, ⟨by decide, by decide⟩, Or.inr (Or.inl ⟨rfl, rfl⟩), Or.inr (Or.inl ⟨rfl, by decide +kernel, List.mem_of_getElem? (i := 608) (by decide +kernel), List.mem_of_getElem? (i := 609) (by decide +kernel), by decide, rfl⟩)⟩
set_option maxRecDepth 100000 in
theorem pg_m102 : mm_mok pg_S 102 := ⟨⟨by decide +kernel, List.mem_of_getElem? (i := 614) (by decide +kernel), List.mem_of_getElem? (i := 34) (by decide +kernel), by decide +kernel, by decide +kernel⟩, ⟨by decide, by decide⟩, Or.inr (Or.inl ⟨rfl, rfl⟩), Or.inr (Or.inl ⟨rfl, by decide +kernel, List.mem_of_getElem? (i := 612) (by decide +kernel), List.mem_of_getElem? (i := 613) (by decide +kernel), by decide, rfl⟩)⟩
set_option maxRecDepth 100000 in
theorem pg_m103 : mm_mok pg_S 103 := ⟨⟨by decide +kernel, List.mem_of_getElem? (i := 618) (by decide +kernel), List.mem_of_getElem? (i := 34) (by decide +kernel), by decide +kernel, by decide +kernel⟩, ⟨by decide, by decide⟩, Or.inr (Or.inl ⟨rfl, rfl⟩), Or.inr (Or.inl ⟨rfl, by decide +kernel, List.mem_of_getElem? (i := 616) (by decide +kernel), List.mem_of_getElem? (i := 617) (by decide +kernel), by decide, rfl⟩)⟩
theorem pg_mok : ∀ μ, μ < 104 → mm_mok pg_S μ
  | 0, _ => pg_m0
  | 1, _ => pg_m1
  | 2, _ => pg_m2
  | 3, _ => pg_m3
  | 4, _ => pg_m4
  | 5, _ => pg_m5
  | 6, _ => pg_m6
  | 7, _ => pg_m7
  | 8, _ => pg_m8
  | 9, _ => pg_m9
  | 10, _ => pg_m10
  | 11, _ => pg_m11
  | 12, _ => pg_m12
  | 13, _ => pg_m13
  | 14, _ => pg_m14
  | 15, _ => pg_m15
  | 16, _ => pg_m16
  | 17, _ => pg_m17
  | 18, _ => pg_m18
  | 19, _ => pg_m19
  | 20, _ => pg_m20
  | 21, _ => pg_m21
  | 22, _ => pg_m22
  | 23, _ => pg_m23
  | 24, _ => pg_m24
  | 25, _ => pg_m25
  | 26, _ => pg_m26
  | 27, _ => pg_m27
  | 28, _ => pg_m28
  | 29, _ => pg_m29
  | 30, _ => pg_m30
  | 31, _ => pg_m31
  | 32, _ => pg_m32
  | 33, _ => pg_m33
  | 34, _ => pg_m34
  | 35, _ => pg_m35
  | 36, _ => pg_m36
  | 37, _ => pg_m37
  | 38, _ => pg_m38
  | 39, _ => pg_m39
  | 40, _ => pg_m40
  | 41, _ => pg_m41
  | 42, _ => pg_m42
  | 43, _ => pg_m43
  | 44, _ => pg_m44
  | 45, _ => pg_m45
  | 46, _ => pg_m46
  | 47, _ => pg_m47
  | 48, _ => pg_m48
  | 49, _ => pg_m49
  | 50, _ => pg_m50
  | 51, _ => pg_m51
  | 52, _ => pg_m52
  | 53, _ => pg_m53
  | 54, _ => pg_m54
  | 55, _ => pg_m55
  | 56, _ => pg_m56
  | 57, _ => pg_m57
  | 58, _ => pg_m58
  | 59, _ => pg_m59
  | 60, _ => pg_m60
  | 61, _ => pg_m61
  | 62, _ => pg_m62
  | 63, _ => pg_m63
  | 64, _ => pg_m64
  | 65, _ => pg_m65
  | 66, _ => pg_m66
  | 67, _ => pg_m67
  | 68, _ => pg_m68
  | 69, _ => pg_m69
  | 70, _ => pg_m70
  | 71, _ => pg_m71
  | 72, _ => pg_m72
  | 73, _ => pg_m73
  | 74, _ => pg_m74
  | 75, _ => pg_m75
  | 76, _ => pg_m76
  | 77, _ => pg_m77
  | 78, _ => pg_m78
  | 79, _ => pg_m79
  | 80, _ => pg_m80
  | 81, _ => pg_m81
  | 82, _ => pg_m82
  | 83, _ => pg_m83
  | 84, _ => pg_m84
  | 85, _ => pg_m85
  | 86, _ => pg_m86
  | 87, _ => pg_m87
  | 88, _ => pg_m88
  | 89, _ => pg_m89
  | 90, _ => pg_m90
  | 91, _ => pg_m91
  | 92, _ => pg_m92
  | 93, _ => pg_m93
  | 94, _ => pg_m94
  | 95, _ => pg_m95
  | 96, _ => pg_m96
  | 97, _ => pg_m97
  | 98, _ => pg_m98
  | 99, _ => pg_m99
  | 100, _ => pg_m100
  | 101, _ => pg_m101
  | 102, _ => pg_m102
  | 103, _ => pg_m103
  | _ + 104, h => absurd h (by omega)
