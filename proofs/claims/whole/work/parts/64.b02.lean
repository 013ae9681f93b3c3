/-! The constructors, run; printed by mkboot.py -/
def hb311 (L : Nat) (xs : Nat → Int32) : aHp := aNew (hb310 L xs) 110 58
def hb312 (sh : Nat → aShp) (I : Nat → Nat → Int32) (J : Nat → Nat → Int64) (E : Nat → Nat → UInt64) : aHp := aNew ((0, 138), sh, I, J, E) 110 58
def hb313 (sh : Nat → aShp) (I : Nat → Nat → Int32) (J : Nat → Nat → Int64) (E : Nat → Nat → UInt64) : aHp := aNew (hb312 sh I J E) 0 5
def hb314 (sh : Nat → aShp) (I : Nat → Nat → Int32) (J : Nat → Nat → Int64) (E : Nat → Nat → UInt64) : aHp := aShR (hb313 sh I J E) 138 2 (some 139)
def hb315 (sh : Nat → aShp) (I : Nat → Nat → Int32) (J : Nat → Nat → Int64) (E : Nat → Nat → UInt64) : aHp := aNew (hb314 sh I J E) 0 24
def hb316 (sh : Nat → aShp) (I : Nat → Nat → Int32) (J : Nat → Nat → Int64) (E : Nat → Nat → UInt64) : aHp := aShR (hb315 sh I J E) 138 4 (some 140)
def hb317 (sh : Nat → aShp) (I : Nat → Nat → Int32) (J : Nat → Nat → Int64) (E : Nat → Nat → UInt64) : aHp := aNew (hb316 sh I J E) 0 24
def hb318 (sh : Nat → aShp) (I : Nat → Nat → Int32) (J : Nat → Nat → Int64) (E : Nat → Nat → UInt64) : aHp := aShR (hb317 sh I J E) 138 5 (some 141)
def hb319 (sh : Nat → aShp) (I : Nat → Nat → Int32) (J : Nat → Nat → Int64) (E : Nat → Nat → UInt64) : aHp := aNew (hb318 sh I J E) 0 120
def hb320 (sh : Nat → aShp) (I : Nat → Nat → Int32) (J : Nat → Nat → Int64) (E : Nat → Nat → UInt64) : aHp := aShR (hb319 sh I J E) 138 6 (some 142)
def hb321 (sh : Nat → aShp) (I : Nat → Nat → Int32) (J : Nat → Nat → Int64) (E : Nat → Nat → UInt64) : aHp := aNew (hb320 sh I J E) 0 120
def hb322 (sh : Nat → aShp) (I : Nat → Nat → Int32) (J : Nat → Nat → Int64) (E : Nat → Nat → UInt64) : aHp := aShR (hb321 sh I J E) 138 7 (some 143)
def hb323 (sh : Nat → aShp) (I : Nat → Nat → Int32) (J : Nat → Nat → Int64) (E : Nat → Nat → UInt64) : aHp := aNew (hb322 sh I J E) 0 24
def hb324 (sh : Nat → aShp) (I : Nat → Nat → Int32) (J : Nat → Nat → Int64) (E : Nat → Nat → UInt64) : aHp := aShR (hb323 sh I J E) 138 8 (some 144)
def hb325 (sh : Nat → aShp) (I : Nat → Nat → Int32) (J : Nat → Nat → Int64) (E : Nat → Nat → UInt64) : aHp := aNew (hb324 sh I J E) 1 24
def hb326 (sh : Nat → aShp) (I : Nat → Nat → Int32) (J : Nat → Nat → Int64) (E : Nat → Nat → UInt64) : aHp := aShR (hb325 sh I J E) 138 9 (some 145)
def hb327 (sh : Nat → aShp) (I : Nat → Nat → Int32) (J : Nat → Nat → Int64) (E : Nat → Nat → UInt64) : aHp := aNew (hb326 sh I J E) 0 5
def hb328 (sh : Nat → aShp) (I : Nat → Nat → Int32) (J : Nat → Nat → Int64) (E : Nat → Nat → UInt64) : aHp := aShR (hb327 sh I J E) 138 10 (some 146)
def hb329 (sh : Nat → aShp) (I : Nat → Nat → Int32) (J : Nat → Nat → Int64) (E : Nat → Nat → UInt64) : aHp := aNew (hb328 sh I J E) 0 20
def hb330 (sh : Nat → aShp) (I : Nat → Nat → Int32) (J : Nat → Nat → Int64) (E : Nat → Nat → UInt64) : aHp := aShR (hb329 sh I J E) 138 11 (some 147)
def hb331 (sh : Nat → aShp) (I : Nat → Nat → Int32) (J : Nat → Nat → Int64) (E : Nat → Nat → UInt64) : aHp := aNew (hb330 sh I J E) 0 20
def hb332 (sh : Nat → aShp) (I : Nat → Nat → Int32) (J : Nat → Nat → Int64) (E : Nat → Nat → UInt64) : aHp := aShR (hb331 sh I J E) 138 12 (some 148)
def hb333 (sh : Nat → aShp) (I : Nat → Nat → Int32) (J : Nat → Nat → Int64) (E : Nat → Nat → UInt64) : aHp := aNew (hb332 sh I J E) 0 20
def hb334 (sh : Nat → aShp) (I : Nat → Nat → Int32) (J : Nat → Nat → Int64) (E : Nat → Nat → UInt64) : aHp := aShR (hb333 sh I J E) 138 13 (some 149)
def hb335 (sh : Nat → aShp) (I : Nat → Nat → Int32) (J : Nat → Nat → Int64) (E : Nat → Nat → UInt64) : aHp := aNew (hb334 sh I J E) 0 20
def hb336 (sh : Nat → aShp) (I : Nat → Nat → Int32) (J : Nat → Nat → Int64) (E : Nat → Nat → UInt64) : aHp := aShR (hb335 sh I J E) 138 14 (some 150)
def hb337 (sh : Nat → aShp) (I : Nat → Nat → Int32) (J : Nat → Nat → Int64) (E : Nat → Nat → UInt64) : aHp := aNew (hb336 sh I J E) 0 20
def hb338 (sh : Nat → aShp) (I : Nat → Nat → Int32) (J : Nat → Nat → Int64) (E : Nat → Nat → UInt64) : aHp := aShR (hb337 sh I J E) 138 15 (some 151)
def hb339 (sh : Nat → aShp) (I : Nat → Nat → Int32) (J : Nat → Nat → Int64) (E : Nat → Nat → UInt64) : aHp := aNew (hb338 sh I J E) 0 20
def hb340 (sh : Nat → aShp) (I : Nat → Nat → Int32) (J : Nat → Nat → Int64) (E : Nat → Nat → UInt64) : aHp := aShR (hb339 sh I J E) 138 16 (some 152)
def hb341 (sh : Nat → aShp) (I : Nat → Nat → Int32) (J : Nat → Nat → Int64) (E : Nat → Nat → UInt64) : aHp := aNew (hb340 sh I J E) 0 20
def hb342 (sh : Nat → aShp) (I : Nat → Nat → Int32) (J : Nat → Nat → Int64) (E : Nat → Nat → UInt64) : aHp := aShR (hb341 sh I J E) 138 17 (some 153)
def hb343 (sh : Nat → aShp) (I : Nat → Nat → Int32) (J : Nat → Nat → Int64) (E : Nat → Nat → UInt64) : aHp := aNew (hb342 sh I J E) 0 20
def hb344 (sh : Nat → aShp) (I : Nat → Nat → Int32) (J : Nat → Nat → Int64) (E : Nat → Nat → UInt64) : aHp := aShR (hb343 sh I J E) 138 18 (some 154)
def hb345 (sh : Nat → aShp) (I : Nat → Nat → Int32) (J : Nat → Nat → Int64) (E : Nat → Nat → UInt64) : aHp := aNew (hb344 sh I J E) 0 5
def hb346 (sh : Nat → aShp) (I : Nat → Nat → Int32) (J : Nat → Nat → Int64) (E : Nat → Nat → UInt64) : aHp := aShR (hb345 sh I J E) 138 19 (some 155)
def hb347 (sh : Nat → aShp) (I : Nat → Nat → Int32) (J : Nat → Nat → Int64) (E : Nat → Nat → UInt64) : aHp := aNew (hb346 sh I J E) 0 5
def hb348 (sh : Nat → aShp) (I : Nat → Nat → Int32) (J : Nat → Nat → Int64) (E : Nat → Nat → UInt64) : aHp := aShR (hb347 sh I J E) 138 20 (some 156)
def hb349 (sh : Nat → aShp) (I : Nat → Nat → Int32) (J : Nat → Nat → Int64) (E : Nat → Nat → UInt64) : aHp := aNew (hb348 sh I J E) 1 5
def hb350 (sh : Nat → aShp) (I : Nat → Nat → Int32) (J : Nat → Nat → Int64) (E : Nat → Nat → UInt64) : aHp := aShR (hb349 sh I J E) 138 21 (some 157)
def hb351 (sh : Nat → aShp) (I : Nat → Nat → Int32) (J : Nat → Nat → Int64) (E : Nat → Nat → UInt64) : aHp := aNew (hb350 sh I J E) 0 5
def hb352 (sh : Nat → aShp) (I : Nat → Nat → Int32) (J : Nat → Nat → Int64) (E : Nat → Nat → UInt64) : aHp := aShR (hb351 sh I J E) 138 22 (some 158)
def hb353 (sh : Nat → aShp) (I : Nat → Nat → Int32) (J : Nat → Nat → Int64) (E : Nat → Nat → UInt64) : aHp := aNew (hb352 sh I J E) 0 5
def hb354 (sh : Nat → aShp) (I : Nat → Nat → Int32) (J : Nat → Nat → Int64) (E : Nat → Nat → UInt64) : aHp := aShR (hb353 sh I J E) 138 23 (some 159)
def hb355 (sh : Nat → aShp) (I : Nat → Nat → Int32) (J : Nat → Nat → Int64) (E : Nat → Nat → UInt64) : aHp := aNew (hb354 sh I J E) 0 5
def hb356 (sh : Nat → aShp) (I : Nat → Nat → Int32) (J : Nat → Nat → Int64) (E : Nat → Nat → UInt64) : aHp := aShR (hb355 sh I J E) 138 24 (some 160)
def hb357 (sh : Nat → aShp) (I : Nat → Nat → Int32) (J : Nat → Nat → Int64) (E : Nat → Nat → UInt64) : aHp := aNew (hb356 sh I J E) 0 5
def hb358 (sh : Nat → aShp) (I : Nat → Nat → Int32) (J : Nat → Nat → Int64) (E : Nat → Nat → UInt64) : aHp := aShR (hb357 sh I J E) 138 25 (some 161)
def hb359 (sh : Nat → aShp) (I : Nat → Nat → Int32) (J : Nat → Nat → Int64) (E : Nat → Nat → UInt64) : aHp := aNew (hb358 sh I J E) 0 5
def hb360 (sh : Nat → aShp) (I : Nat → Nat → Int32) (J : Nat → Nat → Int64) (E : Nat → Nat → UInt64) : aHp := aShR (hb359 sh I J E) 138 26 (some 162)
def hb361 (sh : Nat → aShp) (I : Nat → Nat → Int32) (J : Nat → Nat → Int64) (E : Nat → Nat → UInt64) : aHp := aNew (hb360 sh I J E) 0 8
def hb362 (sh : Nat → aShp) (I : Nat → Nat → Int32) (J : Nat → Nat → Int64) (E : Nat → Nat → UInt64) : aHp := aShR (hb361 sh I J E) 138 28 (some 163)
def hb363 (sh : Nat → aShp) (I : Nat → Nat → Int32) (J : Nat → Nat → Int64) (E : Nat → Nat → UInt64) : aHp := aNew (hb362 sh I J E) 0 8
def hb364 (sh : Nat → aShp) (I : Nat → Nat → Int32) (J : Nat → Nat → Int64) (E : Nat → Nat → UInt64) : aHp := aShR (hb363 sh I J E) 138 29 (some 164)
def hb365 (sh : Nat → aShp) (I : Nat → Nat → Int32) (J : Nat → Nat → Int64) (E : Nat → Nat → UInt64) : aHp := aNew (hb364 sh I J E) 0 8
def hb366 (sh : Nat → aShp) (I : Nat → Nat → Int32) (J : Nat → Nat → Int64) (E : Nat → Nat → UInt64) : aHp := aShR (hb365 sh I J E) 138 30 (some 165)
def hb367 (sh : Nat → aShp) (I : Nat → Nat → Int32) (J : Nat → Nat → Int64) (E : Nat → Nat → UInt64) : aHp := aNew (hb366 sh I J E) 0 12
def hb368 (sh : Nat → aShp) (I : Nat → Nat → Int32) (J : Nat → Nat → Int64) (E : Nat → Nat → UInt64) : aHp := aShR (hb367 sh I J E) 138 32 (some 166)
def hb369 (sh : Nat → aShp) (I : Nat → Nat → Int32) (J : Nat → Nat → Int64) (E : Nat → Nat → UInt64) : aHp := aNew (hb368 sh I J E) 0 12
def hb370 (sh : Nat → aShp) (I : Nat → Nat → Int32) (J : Nat → Nat → Int64) (E : Nat → Nat → UInt64) : aHp := aShR (hb369 sh I J E) 138 33 (some 167)
def hb371 (sh : Nat → aShp) (I : Nat → Nat → Int32) (J : Nat → Nat → Int64) (E : Nat → Nat → UInt64) : aHp := aNew (hb370 sh I J E) 0 12
def hb372 (sh : Nat → aShp) (I : Nat → Nat → Int32) (J : Nat → Nat → Int64) (E : Nat → Nat → UInt64) : aHp := aShR (hb371 sh I J E) 138 34 (some 168)
def hb373 (sh : Nat → aShp) (I : Nat → Nat → Int32) (J : Nat → Nat → Int64) (E : Nat → Nat → UInt64) : aHp := aNew (hb372 sh I J E) 0 12
def hb374 (sh : Nat → aShp) (I : Nat → Nat → Int32) (J : Nat → Nat → Int64) (E : Nat → Nat → UInt64) : aHp := aShR (hb373 sh I J E) 138 35 (some 169)
def hb375 (sh : Nat → aShp) (I : Nat → Nat → Int32) (J : Nat → Nat → Int64) (E : Nat → Nat → UInt64) : aHp := aNew (hb374 sh I J E) 1 12
def hb376 (sh : Nat → aShp) (I : Nat → Nat → Int32) (J : Nat → Nat → Int64) (E : Nat → Nat → UInt64) : aHp := aShR (hb375 sh I J E) 138 36 (some 170)
def hb377 (sh : Nat → aShp) (I : Nat → Nat → Int32) (J : Nat → Nat → Int64) (E : Nat → Nat → UInt64) : aHp := aNew (hb376 sh I J E) 0 30
def hb378 (sh : Nat → aShp) (I : Nat → Nat → Int32) (J : Nat → Nat → Int64) (E : Nat → Nat → UInt64) : aHp := aShR (hb377 sh I J E) 138 38 (some 171)
def hb379 (sh : Nat → aShp) (I : Nat → Nat → Int32) (J : Nat → Nat → Int64) (E : Nat → Nat → UInt64) : aHp := aNew (hb378 sh I J E) 0 30
def hb380 (sh : Nat → aShp) (I : Nat → Nat → Int32) (J : Nat → Nat → Int64) (E : Nat → Nat → UInt64) : aHp := aShR (hb379 sh I J E) 138 39 (some 172)
def hb381 (sh : Nat → aShp) (I : Nat → Nat → Int32) (J : Nat → Nat → Int64) (E : Nat → Nat → UInt64) : aHp := aWI (hb380 sh I J E) 138 40 1
def hb382 (sh : Nat → aShp) (I : Nat → Nat → Int32) (J : Nat → Nat → Int64) (E : Nat → Nat → UInt64) : aHp := aNew (hb381 sh I J E) 0 21
def hb383 (sh : Nat → aShp) (I : Nat → Nat → Int32) (J : Nat → Nat → Int64) (E : Nat → Nat → UInt64) : aHp := aShR (hb382 sh I J E) 138 41 (some 173)
def hb384 (sh : Nat → aShp) (I : Nat → Nat → Int32) (J : Nat → Nat → Int64) (E : Nat → Nat → UInt64) : aHp := aNew (hb383 sh I J E) 0 12
def hb385 (sh : Nat → aShp) (I : Nat → Nat → Int32) (J : Nat → Nat → Int64) (E : Nat → Nat → UInt64) : aHp := aShR (hb384 sh I J E) 138 43 (some 174)
def hb386 (sh : Nat → aShp) (I : Nat → Nat → Int32) (J : Nat → Nat → Int64) (E : Nat → Nat → UInt64) : aHp := aNew (hb385 sh I J E) 0 12
def hb387 (sh : Nat → aShp) (I : Nat → Nat → Int32) (J : Nat → Nat → Int64) (E : Nat → Nat → UInt64) : aHp := aShR (hb386 sh I J E) 138 44 (some 175)
def hb388 (sh : Nat → aShp) (I : Nat → Nat → Int32) (J : Nat → Nat → Int64) (E : Nat → Nat → UInt64) : aHp := aNew (hb387 sh I J E) 0 12
def hb389 (sh : Nat → aShp) (I : Nat → Nat → Int32) (J : Nat → Nat → Int64) (E : Nat → Nat → UInt64) : aHp := aShR (hb388 sh I J E) 138 45 (some 176)
def hb390 (sh : Nat → aShp) (I : Nat → Nat → Int32) (J : Nat → Nat → Int64) (E : Nat → Nat → UInt64) : aHp := aNew (hb389 sh I J E) 0 12
def hb391 (sh : Nat → aShp) (I : Nat → Nat → Int32) (J : Nat → Nat → Int64) (E : Nat → Nat → UInt64) : aHp := aShR (hb390 sh I J E) 138 46 (some 177)
def hb392 (sh : Nat → aShp) (I : Nat → Nat → Int32) (J : Nat → Nat → Int64) (E : Nat → Nat → UInt64) : aHp := aNew (hb391 sh I J E) 0 12
def hb393 (sh : Nat → aShp) (I : Nat → Nat → Int32) (J : Nat → Nat → Int64) (E : Nat → Nat → UInt64) : aHp := aShR (hb392 sh I J E) 138 47 (some 178)
def hb394 (sh : Nat → aShp) (I : Nat → Nat → Int32) (J : Nat → Nat → Int64) (E : Nat → Nat → UInt64) : aHp := aNew (hb393 sh I J E) 0 12
def hb395 (sh : Nat → aShp) (I : Nat → Nat → Int32) (J : Nat → Nat → Int64) (E : Nat → Nat → UInt64) : aHp := aShR (hb394 sh I J E) 138 48 (some 179)
def hb396 (sh : Nat → aShp) (I : Nat → Nat → Int32) (J : Nat → Nat → Int64) (E : Nat → Nat → UInt64) : aHp := aNew (hb395 sh I J E) 0 12
def hb397 (sh : Nat → aShp) (I : Nat → Nat → Int32) (J : Nat → Nat → Int64) (E : Nat → Nat → UInt64) : aHp := aShR (hb396 sh I J E) 138 49 (some 180)
def hb398 (sh : Nat → aShp) (I : Nat → Nat → Int32) (J : Nat → Nat → Int64) (E : Nat → Nat → UInt64) : aHp := aNew (hb397 sh I J E) 1 12
def hb399 (sh : Nat → aShp) (I : Nat → Nat → Int32) (J : Nat → Nat → Int64) (E : Nat → Nat → UInt64) : aHp := aShR (hb398 sh I J E) 138 50 (some 181)
def hb400 (sh : Nat → aShp) (I : Nat → Nat → Int32) (J : Nat → Nat → Int64) (E : Nat → Nat → UInt64) : aHp := aWI (hb399 sh I J E) 138 51 (-1)
def hb401 (sh : Nat → aShp) (I : Nat → Nat → Int32) (J : Nat → Nat → Int64) (E : Nat → Nat → UInt64) : aHp := aNew (hb400 sh I J E) 0 8192
def hb402 (sh : Nat → aShp) (I : Nat → Nat → Int32) (J : Nat → Nat → Int64) (E : Nat → Nat → UInt64) : aHp := aShR (hb401 sh I J E) 138 52 (some 182)
def hb403 (sh : Nat → aShp) (I : Nat → Nat → Int32) (J : Nat → Nat → Int64) (E : Nat → Nat → UInt64) : aHp := aNew (hb402 sh I J E) 0 8192
def hb404 (sh : Nat → aShp) (I : Nat → Nat → Int32) (J : Nat → Nat → Int64) (E : Nat → Nat → UInt64) : aHp := aShR (hb403 sh I J E) 138 53 (some 183)
def hb405 (sh : Nat → aShp) (I : Nat → Nat → Int32) (J : Nat → Nat → Int64) (E : Nat → Nat → UInt64) : aHp := aNew (hb404 sh I J E) 0 8192
def hb406 (sh : Nat → aShp) (I : Nat → Nat → Int32) (J : Nat → Nat → Int64) (E : Nat → Nat → UInt64) : aHp := aShR (hb405 sh I J E) 138 54 (some 184)
def hb407 (sh : Nat → aShp) (I : Nat → Nat → Int32) (J : Nat → Nat → Int64) (E : Nat → Nat → UInt64) : aHp := aNew (hb406 sh I J E) 0 8192
def hb408 (sh : Nat → aShp) (I : Nat → Nat → Int32) (J : Nat → Nat → Int64) (E : Nat → Nat → UInt64) : aHp := aShR (hb407 sh I J E) 138 55 (some 185)
def hb409 (sh : Nat → aShp) (I : Nat → Nat → Int32) (J : Nat → Nat → Int64) (E : Nat → Nat → UInt64) : aHp := aNew (hb408 sh I J E) 0 5
def hb410 (sh : Nat → aShp) (I : Nat → Nat → Int32) (J : Nat → Nat → Int64) (E : Nat → Nat → UInt64) : aHp := aShR (hb409 sh I J E) 138 56 (some 186)
def hb411 (sh : Nat → aShp) (I : Nat → Nat → Int32) (J : Nat → Nat → Int64) (E : Nat → Nat → UInt64) : aHp := aWI (hb410 sh I J E) 146 0 (-1)
def hb412 (sh : Nat → aShp) (I : Nat → Nat → Int32) (J : Nat → Nat → Int64) (E : Nat → Nat → UInt64) : aHp := aWI (hb411 sh I J E) 146 1 (-1)
def hb413 (sh : Nat → aShp) (I : Nat → Nat → Int32) (J : Nat → Nat → Int64) (E : Nat → Nat → UInt64) : aHp := aWI (hb412 sh I J E) 146 2 (-1)
def hb414 (sh : Nat → aShp) (I : Nat → Nat → Int32) (J : Nat → Nat → Int64) (E : Nat → Nat → UInt64) : aHp := aWI (hb413 sh I J E) 146 3 (-1)
def hb415 (sh : Nat → aShp) (I : Nat → Nat → Int32) (J : Nat → Nat → Int64) (E : Nat → Nat → UInt64) : aHp := aWI (hb414 sh I J E) 146 4 (-1)
def hb416 (sh : Nat → aShp) (I : Nat → Nat → Int32) (J : Nat → Nat → Int64) (E : Nat → Nat → UInt64) : aHp := aWI (hb415 sh I J E) 147 0 (-1)
def hb417 (sh : Nat → aShp) (I : Nat → Nat → Int32) (J : Nat → Nat → Int64) (E : Nat → Nat → UInt64) : aHp := aWI (hb416 sh I J E) 148 0 (-1)
def hb418 (sh : Nat → aShp) (I : Nat → Nat → Int32) (J : Nat → Nat → Int64) (E : Nat → Nat → UInt64) : aHp := aWI (hb417 sh I J E) 149 0 (-1)
def hb419 (sh : Nat → aShp) (I : Nat → Nat → Int32) (J : Nat → Nat → Int64) (E : Nat → Nat → UInt64) : aHp := aWI (hb418 sh I J E) 147 1 (-1)
def hb420 (sh : Nat → aShp) (I : Nat → Nat → Int32) (J : Nat → Nat → Int64) (E : Nat → Nat → UInt64) : aHp := aWI (hb419 sh I J E) 148 1 (-1)
def hb421 (sh : Nat → aShp) (I : Nat → Nat → Int32) (J : Nat → Nat → Int64) (E : Nat → Nat → UInt64) : aHp := aWI (hb420 sh I J E) 149 1 (-1)
def hb422 (sh : Nat → aShp) (I : Nat → Nat → Int32) (J : Nat → Nat → Int64) (E : Nat → Nat → UInt64) : aHp := aWI (hb421 sh I J E) 147 2 (-1)
def hb423 (sh : Nat → aShp) (I : Nat → Nat → Int32) (J : Nat → Nat → Int64) (E : Nat → Nat → UInt64) : aHp := aWI (hb422 sh I J E) 148 2 (-1)
def hb424 (sh : Nat → aShp) (I : Nat → Nat → Int32) (J : Nat → Nat → Int64) (E : Nat → Nat → UInt64) : aHp := aWI (hb423 sh I J E) 149 2 (-1)
def hb425 (sh : Nat → aShp) (I : Nat → Nat → Int32) (J : Nat → Nat → Int64) (E : Nat → Nat → UInt64) : aHp := aWI (hb424 sh I J E) 147 3 (-1)
def hb426 (sh : Nat → aShp) (I : Nat → Nat → Int32) (J : Nat → Nat → Int64) (E : Nat → Nat → UInt64) : aHp := aWI (hb425 sh I J E) 148 3 (-1)
def hb427 (sh : Nat → aShp) (I : Nat → Nat → Int32) (J : Nat → Nat → Int64) (E : Nat → Nat → UInt64) : aHp := aWI (hb426 sh I J E) 149 3 (-1)
def hb428 (sh : Nat → aShp) (I : Nat → Nat → Int32) (J : Nat → Nat → Int64) (E : Nat → Nat → UInt64) : aHp := aWI (hb427 sh I J E) 147 4 (-1)
def hb429 (sh : Nat → aShp) (I : Nat → Nat → Int32) (J : Nat → Nat → Int64) (E : Nat → Nat → UInt64) : aHp := aWI (hb428 sh I J E) 148 4 (-1)
def hb430 (sh : Nat → aShp) (I : Nat → Nat → Int32) (J : Nat → Nat → Int64) (E : Nat → Nat → UInt64) : aHp := aWI (hb429 sh I J E) 149 4 (-1)
def hb431 (sh : Nat → aShp) (I : Nat → Nat → Int32) (J : Nat → Nat → Int64) (E : Nat → Nat → UInt64) : aHp := aWI (hb430 sh I J E) 147 5 (-1)
def hb432 (sh : Nat → aShp) (I : Nat → Nat → Int32) (J : Nat → Nat → Int64) (E : Nat → Nat → UInt64) : aHp := aWI (hb431 sh I J E) 148 5 (-1)
def hb433 (sh : Nat → aShp) (I : Nat → Nat → Int32) (J : Nat → Nat → Int64) (E : Nat → Nat → UInt64) : aHp := aWI (hb432 sh I J E) 149 5 (-1)
def hb434 (sh : Nat → aShp) (I : Nat → Nat → Int32) (J : Nat → Nat → Int64) (E : Nat → Nat → UInt64) : aHp := aWI (hb433 sh I J E) 147 6 (-1)
def hb435 (sh : Nat → aShp) (I : Nat → Nat → Int32) (J : Nat → Nat → Int64) (E : Nat → Nat → UInt64) : aHp := aWI (hb434 sh I J E) 148 6 (-1)
def hb436 (sh : Nat → aShp) (I : Nat → Nat → Int32) (J : Nat → Nat → Int64) (E : Nat → Nat → UInt64) : aHp := aWI (hb435 sh I J E) 149 6 (-1)
def hb437 (sh : Nat → aShp) (I : Nat → Nat → Int32) (J : Nat → Nat → Int64) (E : Nat → Nat → UInt64) : aHp := aWI (hb436 sh I J E) 147 7 (-1)
def hb438 (sh : Nat → aShp) (I : Nat → Nat → Int32) (J : Nat → Nat → Int64) (E : Nat → Nat → UInt64) : aHp := aWI (hb437 sh I J E) 148 7 (-1)
def hb439 (sh : Nat → aShp) (I : Nat → Nat → Int32) (J : Nat → Nat → Int64) (E : Nat → Nat → UInt64) : aHp := aWI (hb438 sh I J E) 149 7 (-1)
def hb440 (sh : Nat → aShp) (I : Nat → Nat → Int32) (J : Nat → Nat → Int64) (E : Nat → Nat → UInt64) : aHp := aWI (hb439 sh I J E) 147 8 (-1)
def hb441 (sh : Nat → aShp) (I : Nat → Nat → Int32) (J : Nat → Nat → Int64) (E : Nat → Nat → UInt64) : aHp := aWI (hb440 sh I J E) 148 8 (-1)
def hb442 (sh : Nat → aShp) (I : Nat → Nat → Int32) (J : Nat → Nat → Int64) (E : Nat → Nat → UInt64) : aHp := aWI (hb441 sh I J E) 149 8 (-1)
def hb443 (sh : Nat → aShp) (I : Nat → Nat → Int32) (J : Nat → Nat → Int64) (E : Nat → Nat → UInt64) : aHp := aWI (hb442 sh I J E) 147 9 (-1)
def hb444 (sh : Nat → aShp) (I : Nat → Nat → Int32) (J : Nat → Nat → Int64) (E : Nat → Nat → UInt64) : aHp := aWI (hb443 sh I J E) 148 9 (-1)
def hb445 (sh : Nat → aShp) (I : Nat → Nat → Int32) (J : Nat → Nat → Int64) (E : Nat → Nat → UInt64) : aHp := aWI (hb444 sh I J E) 149 9 (-1)
def hb446 (sh : Nat → aShp) (I : Nat → Nat → Int32) (J : Nat → Nat → Int64) (E : Nat → Nat → UInt64) : aHp := aWI (hb445 sh I J E) 147 10 (-1)
def hb447 (sh : Nat → aShp) (I : Nat → Nat → Int32) (J : Nat → Nat → Int64) (E : Nat → Nat → UInt64) : aHp := aWI (hb446 sh I J E) 148 10 (-1)
def hb448 (sh : Nat → aShp) (I : Nat → Nat → Int32) (J : Nat → Nat → Int64) (E : Nat → Nat → UInt64) : aHp := aWI (hb447 sh I J E) 149 10 (-1)
def hb449 (sh : Nat → aShp) (I : Nat → Nat → Int32) (J : Nat → Nat → Int64) (E : Nat → Nat → UInt64) : aHp := aWI (hb448 sh I J E) 147 11 (-1)
def hb450 (sh : Nat → aShp) (I : Nat → Nat → Int32) (J : Nat → Nat → Int64) (E : Nat → Nat → UInt64) : aHp := aWI (hb449 sh I J E) 148 11 (-1)
def hb451 (sh : Nat → aShp) (I : Nat → Nat → Int32) (J : Nat → Nat → Int64) (E : Nat → Nat → UInt64) : aHp := aWI (hb450 sh I J E) 149 11 (-1)
def hb452 (sh : Nat → aShp) (I : Nat → Nat → Int32) (J : Nat → Nat → Int64) (E : Nat → Nat → UInt64) : aHp := aWI (hb451 sh I J E) 147 12 (-1)
def hb453 (sh : Nat → aShp) (I : Nat → Nat → Int32) (J : Nat → Nat → Int64) (E : Nat → Nat → UInt64) : aHp := aWI (hb452 sh I J E) 148 12 (-1)
def hb454 (sh : Nat → aShp) (I : Nat → Nat → Int32) (J : Nat → Nat → Int64) (E : Nat → Nat → UInt64) : aHp := aWI (hb453 sh I J E) 149 12 (-1)
def hb455 (sh : Nat → aShp) (I : Nat → Nat → Int32) (J : Nat → Nat → Int64) (E : Nat → Nat → UInt64) : aHp := aWI (hb454 sh I J E) 147 13 (-1)
def hb456 (sh : Nat → aShp) (I : Nat → Nat → Int32) (J : Nat → Nat → Int64) (E : Nat → Nat → UInt64) : aHp := aWI (hb455 sh I J E) 148 13 (-1)
def hb457 (sh : Nat → aShp) (I : Nat → Nat → Int32) (J : Nat → Nat → Int64) (E : Nat → Nat → UInt64) : aHp := aWI (hb456 sh I J E) 149 13 (-1)
def hb458 (sh : Nat → aShp) (I : Nat → Nat → Int32) (J : Nat → Nat → Int64) (E : Nat → Nat → UInt64) : aHp := aWI (hb457 sh I J E) 147 14 (-1)
def hb459 (sh : Nat → aShp) (I : Nat → Nat → Int32) (J : Nat → Nat → Int64) (E : Nat → Nat → UInt64) : aHp := aWI (hb458 sh I J E) 148 14 (-1)
def hb460 (sh : Nat → aShp) (I : Nat → Nat → Int32) (J : Nat → Nat → Int64) (E : Nat → Nat → UInt64) : aHp := aWI (hb459 sh I J E) 149 14 (-1)
def hb461 (sh : Nat → aShp) (I : Nat → Nat → Int32) (J : Nat → Nat → Int64) (E : Nat → Nat → UInt64) : aHp := aWI (hb460 sh I J E) 147 15 (-1)
def hb462 (sh : Nat → aShp) (I : Nat → Nat → Int32) (J : Nat → Nat → Int64) (E : Nat → Nat → UInt64) : aHp := aWI (hb461 sh I J E) 148 15 (-1)
def hb463 (sh : Nat → aShp) (I : Nat → Nat → Int32) (J : Nat → Nat → Int64) (E : Nat → Nat → UInt64) : aHp := aWI (hb462 sh I J E) 149 15 (-1)
def hb464 (sh : Nat → aShp) (I : Nat → Nat → Int32) (J : Nat → Nat → Int64) (E : Nat → Nat → UInt64) : aHp := aWI (hb463 sh I J E) 147 16 (-1)
def hb465 (sh : Nat → aShp) (I : Nat → Nat → Int32) (J : Nat → Nat → Int64) (E : Nat → Nat → UInt64) : aHp := aWI (hb464 sh I J E) 148 16 (-1)
def hb466 (sh : Nat → aShp) (I : Nat → Nat → Int32) (J : Nat → Nat → Int64) (E : Nat → Nat → UInt64) : aHp := aWI (hb465 sh I J E) 149 16 (-1)
def hb467 (sh : Nat → aShp) (I : Nat → Nat → Int32) (J : Nat → Nat → Int64) (E : Nat → Nat → UInt64) : aHp := aWI (hb466 sh I J E) 147 17 (-1)
def hb468 (sh : Nat → aShp) (I : Nat → Nat → Int32) (J : Nat → Nat → Int64) (E : Nat → Nat → UInt64) : aHp := aWI (hb467 sh I J E) 148 17 (-1)
def hb469 (sh : Nat → aShp) (I : Nat → Nat → Int32) (J : Nat → Nat → Int64) (E : Nat → Nat → UInt64) : aHp := aWI (hb468 sh I J E) 149 17 (-1)
def hb470 (sh : Nat → aShp) (I : Nat → Nat → Int32) (J : Nat → Nat → Int64) (E : Nat → Nat → UInt64) : aHp := aWI (hb469 sh I J E) 147 18 (-1)
def hb471 (sh : Nat → aShp) (I : Nat → Nat → Int32) (J : Nat → Nat → Int64) (E : Nat → Nat → UInt64) : aHp := aWI (hb470 sh I J E) 148 18 (-1)
def hb472 (sh : Nat → aShp) (I : Nat → Nat → Int32) (J : Nat → Nat → Int64) (E : Nat → Nat → UInt64) : aHp := aWI (hb471 sh I J E) 149 18 (-1)
def hb473 (sh : Nat → aShp) (I : Nat → Nat → Int32) (J : Nat → Nat → Int64) (E : Nat → Nat → UInt64) : aHp := aWI (hb472 sh I J E) 147 19 (-1)
def hb474 (sh : Nat → aShp) (I : Nat → Nat → Int32) (J : Nat → Nat → Int64) (E : Nat → Nat → UInt64) : aHp := aWI (hb473 sh I J E) 148 19 (-1)
def hb475 (sh : Nat → aShp) (I : Nat → Nat → Int32) (J : Nat → Nat → Int64) (E : Nat → Nat → UInt64) : aHp := aWI (hb474 sh I J E) 149 19 (-1)
def hb476 (sh : Nat → aShp) (I : Nat → Nat → Int32) (J : Nat → Nat → Int64) (E : Nat → Nat → UInt64) : aHp := aWI (hb475 sh I J E) 155 0 (-1)
def hb477 (sh : Nat → aShp) (I : Nat → Nat → Int32) (J : Nat → Nat → Int64) (E : Nat → Nat → UInt64) : aHp := aWI (hb476 sh I J E) 159 0 1000
def hb478 (sh : Nat → aShp) (I : Nat → Nat → Int32) (J : Nat → Nat → Int64) (E : Nat → Nat → UInt64) : aHp := aWI (hb477 sh I J E) 155 1 (-1)
def hb479 (sh : Nat → aShp) (I : Nat → Nat → Int32) (J : Nat → Nat → Int64) (E : Nat → Nat → UInt64) : aHp := aWI (hb478 sh I J E) 159 1 1000
def hb480 (sh : Nat → aShp) (I : Nat → Nat → Int32) (J : Nat → Nat → Int64) (E : Nat → Nat → UInt64) : aHp := aWI (hb479 sh I J E) 155 2 (-1)
def hb481 (sh : Nat → aShp) (I : Nat → Nat → Int32) (J : Nat → Nat → Int64) (E : Nat → Nat → UInt64) : aHp := aWI (hb480 sh I J E) 159 2 1000
def hb482 (sh : Nat → aShp) (I : Nat → Nat → Int32) (J : Nat → Nat → Int64) (E : Nat → Nat → UInt64) : aHp := aWI (hb481 sh I J E) 155 3 (-1)
def hb483 (sh : Nat → aShp) (I : Nat → Nat → Int32) (J : Nat → Nat → Int64) (E : Nat → Nat → UInt64) : aHp := aWI (hb482 sh I J E) 159 3 1000
def hb484 (sh : Nat → aShp) (I : Nat → Nat → Int32) (J : Nat → Nat → Int64) (E : Nat → Nat → UInt64) : aHp := aWI (hb483 sh I J E) 155 4 (-1)
def hb485 (sh : Nat → aShp) (I : Nat → Nat → Int32) (J : Nat → Nat → Int64) (E : Nat → Nat → UInt64) : aHp := aWI (hb484 sh I J E) 159 4 1000
def hb486 (sh : Nat → aShp) (I : Nat → Nat → Int32) (J : Nat → Nat → Int64) (E : Nat → Nat → UInt64) : aHp := aWI (hb485 sh I J E) 173 0 (-1)
def hb487 (sh : Nat → aShp) (I : Nat → Nat → Int32) (J : Nat → Nat → Int64) (E : Nat → Nat → UInt64) : aHp := aWI (hb486 sh I J E) 173 1 (-1)
def hb488 (sh : Nat → aShp) (I : Nat → Nat → Int32) (J : Nat → Nat → Int64) (E : Nat → Nat → UInt64) : aHp := aWI (hb487 sh I J E) 173 2 (-1)
def hb489 (sh : Nat → aShp) (I : Nat → Nat → Int32) (J : Nat → Nat → Int64) (E : Nat → Nat → UInt64) : aHp := aWI (hb488 sh I J E) 173 3 (-1)
def hb490 (sh : Nat → aShp) (I : Nat → Nat → Int32) (J : Nat → Nat → Int64) (E : Nat → Nat → UInt64) : aHp := aWI (hb489 sh I J E) 173 4 (-1)
def hb491 (sh : Nat → aShp) (I : Nat → Nat → Int32) (J : Nat → Nat → Int64) (E : Nat → Nat → UInt64) : aHp := aWI (hb490 sh I J E) 173 5 (-1)
def hb492 (sh : Nat → aShp) (I : Nat → Nat → Int32) (J : Nat → Nat → Int64) (E : Nat → Nat → UInt64) : aHp := aWI (hb491 sh I J E) 173 6 (-1)
def hb493 (sh : Nat → aShp) (I : Nat → Nat → Int32) (J : Nat → Nat → Int64) (E : Nat → Nat → UInt64) : aHp := aWI (hb492 sh I J E) 173 7 (-1)
def hb494 (sh : Nat → aShp) (I : Nat → Nat → Int32) (J : Nat → Nat → Int64) (E : Nat → Nat → UInt64) : aHp := aWI (hb493 sh I J E) 173 8 (-1)
def hb495 (sh : Nat → aShp) (I : Nat → Nat → Int32) (J : Nat → Nat → Int64) (E : Nat → Nat → UInt64) : aHp := aWI (hb494 sh I J E) 173 9 (-1)
def hb496 (sh : Nat → aShp) (I : Nat → Nat → Int32) (J : Nat → Nat → Int64) (E : Nat → Nat → UInt64) : aHp := aWI (hb495 sh I J E) 173 10 (-1)
def hb497 (sh : Nat → aShp) (I : Nat → Nat → Int32) (J : Nat → Nat → Int64) (E : Nat → Nat → UInt64) : aHp := aWI (hb496 sh I J E) 173 11 (-1)
def hb498 (sh : Nat → aShp) (I : Nat → Nat → Int32) (J : Nat → Nat → Int64) (E : Nat → Nat → UInt64) : aHp := aWI (hb497 sh I J E) 173 12 (-1)
def hb499 (sh : Nat → aShp) (I : Nat → Nat → Int32) (J : Nat → Nat → Int64) (E : Nat → Nat → UInt64) : aHp := aWI (hb498 sh I J E) 173 13 (-1)
def hb500 (sh : Nat → aShp) (I : Nat → Nat → Int32) (J : Nat → Nat → Int64) (E : Nat → Nat → UInt64) : aHp := aWI (hb499 sh I J E) 173 14 (-1)
def hb501 (sh : Nat → aShp) (I : Nat → Nat → Int32) (J : Nat → Nat → Int64) (E : Nat → Nat → UInt64) : aHp := aWI (hb500 sh I J E) 173 15 (-1)
def hb502 (sh : Nat → aShp) (I : Nat → Nat → Int32) (J : Nat → Nat → Int64) (E : Nat → Nat → UInt64) : aHp := aWI (hb501 sh I J E) 173 16 (-1)
def hb503 (sh : Nat → aShp) (I : Nat → Nat → Int32) (J : Nat → Nat → Int64) (E : Nat → Nat → UInt64) : aHp := aWI (hb502 sh I J E) 173 17 (-1)
def hb504 (sh : Nat → aShp) (I : Nat → Nat → Int32) (J : Nat → Nat → Int64) (E : Nat → Nat → UInt64) : aHp := aWI (hb503 sh I J E) 173 18 (-1)
def hb505 (sh : Nat → aShp) (I : Nat → Nat → Int32) (J : Nat → Nat → Int64) (E : Nat → Nat → UInt64) : aHp := aWI (hb504 sh I J E) 173 19 (-1)
def hb506 (sh : Nat → aShp) (I : Nat → Nat → Int32) (J : Nat → Nat → Int64) (E : Nat → Nat → UInt64) : aHp := aWI (hb505 sh I J E) 173 20 (-1)
set_option maxHeartbeats 20000000 in
set_option maxRecDepth 100000 in
theorem bt44 (sh : Nat → aShp) (I : Nat → Nat → Int32) (J : Nat → Nat → Int64) (E : Nat → Nat → UInt64) : Ev 111 (0, 0) (0, aPad [.ref 138] 2, []) (hb312 sh I J E) (.inl none, hb506 sh I J E) := by
  refine ev_run (n := 5) (u' := (1, 5)) (f' := (8, [some (.ref 138), none], [.ref 139, .ref 138])) (h' := hb313 sh I J E) rfl ?_
  refine ev_run (n := 1) (u' := (1, 5)) (f' := (11, [some (.ref 138), none], [])) (h' := hb314 sh I J E) rfl ?_
  refine ev_run (n := 3) (u' := (2, 29)) (f' := (16, [some (.ref 138), none], [.ref 140, .ref 138])) (h' := hb315 sh I J E) rfl ?_
  refine ev_run (n := 1) (u' := (2, 29)) (f' := (19, [some (.ref 138), none], [])) (h' := hb316 sh I J E) rfl ?_
  refine ev_run (n := 3) (u' := (3, 53)) (f' := (24, [some (.ref 138), none], [.ref 141, .ref 138])) (h' := hb317 sh I J E) rfl ?_
  refine ev_run (n := 1) (u' := (3, 53)) (f' := (27, [some (.ref 138), none], [])) (h' := hb318 sh I J E) rfl ?_
  refine ev_run (n := 3) (u' := (4, 173)) (f' := (32, [some (.ref 138), none], [.ref 142, .ref 138])) (h' := hb319 sh I J E) rfl ?_
  refine ev_run (n := 1) (u' := (4, 173)) (f' := (35, [some (.ref 138), none], [])) (h' := hb320 sh I J E) rfl ?_
  refine ev_run (n := 3) (u' := (5, 293)) (f' := (40, [some (.ref 138), none], [.ref 143, .ref 138])) (h' := hb321 sh I J E) rfl ?_
  refine ev_run (n := 1) (u' := (5, 293)) (f' := (43, [some (.ref 138), none], [])) (h' := hb322 sh I J E) rfl ?_
  refine ev_run (n := 3) (u' := (6, 317)) (f' := (48, [some (.ref 138), none], [.ref 144, .ref 138])) (h' := hb323 sh I J E) rfl ?_
  refine ev_run (n := 1) (u' := (6, 317)) (f' := (51, [some (.ref 138), none], [])) (h' := hb324 sh I J E) rfl ?_
  refine ev_run (n := 3) (u' := (7, 341)) (f' := (56, [some (.ref 138), none], [.ref 145, .ref 138])) (h' := hb325 sh I J E) rfl ?_
  refine ev_run (n := 1) (u' := (7, 341)) (f' := (59, [some (.ref 138), none], [])) (h' := hb326 sh I J E) rfl ?_
  refine ev_run (n := 3) (u' := (8, 346)) (f' := (63, [some (.ref 138), none], [.ref 146, .ref 138])) (h' := hb327 sh I J E) rfl ?_
  refine ev_run (n := 1) (u' := (8, 346)) (f' := (66, [some (.ref 138), none], [])) (h' := hb328 sh I J E) rfl ?_
  refine ev_run (n := 3) (u' := (9, 366)) (f' := (71, [some (.ref 138), none], [.ref 147, .ref 138])) (h' := hb329 sh I J E) rfl ?_
  refine ev_run (n := 1) (u' := (9, 366)) (f' := (74, [some (.ref 138), none], [])) (h' := hb330 sh I J E) rfl ?_
  refine ev_run (n := 3) (u' := (10, 386)) (f' := (79, [some (.ref 138), none], [.ref 148, .ref 138])) (h' := hb331 sh I J E) rfl ?_
  refine ev_run (n := 1) (u' := (10, 386)) (f' := (82, [some (.ref 138), none], [])) (h' := hb332 sh I J E) rfl ?_
  refine ev_run (n := 3) (u' := (11, 406)) (f' := (87, [some (.ref 138), none], [.ref 149, .ref 138])) (h' := hb333 sh I J E) rfl ?_
  refine ev_run (n := 1) (u' := (11, 406)) (f' := (90, [some (.ref 138), none], [])) (h' := hb334 sh I J E) rfl ?_
  refine ev_run (n := 3) (u' := (12, 426)) (f' := (95, [some (.ref 138), none], [.ref 150, .ref 138])) (h' := hb335 sh I J E) rfl ?_
  refine ev_run (n := 1) (u' := (12, 426)) (f' := (98, [some (.ref 138), none], [])) (h' := hb336 sh I J E) rfl ?_
  refine ev_run (n := 3) (u' := (13, 446)) (f' := (103, [some (.ref 138), none], [.ref 151, .ref 138])) (h' := hb337 sh I J E) rfl ?_
  refine ev_run (n := 1) (u' := (13, 446)) (f' := (106, [some (.ref 138), none], [])) (h' := hb338 sh I J E) rfl ?_
  refine ev_run (n := 3) (u' := (14, 466)) (f' := (111, [some (.ref 138), none], [.ref 152, .ref 138])) (h' := hb339 sh I J E) rfl ?_
  refine ev_run (n := 1) (u' := (14, 466)) (f' := (114, [some (.ref 138), none], [])) (h' := hb340 sh I J E) rfl ?_
  refine ev_run (n := 3) (u' := (15, 486)) (f' := (119, [some (.ref 138), none], [.ref 153, .ref 138])) (h' := hb341 sh I J E) rfl ?_
  refine ev_run (n := 1) (u' := (15, 486)) (f' := (122, [some (.ref 138), none], [])) (h' := hb342 sh I J E) rfl ?_
  refine ev_run (n := 3) (u' := (16, 506)) (f' := (127, [some (.ref 138), none], [.ref 154, .ref 138])) (h' := hb343 sh I J E) rfl ?_
  refine ev_run (n := 1) (u' := (16, 506)) (f' := (130, [some (.ref 138), none], [])) (h' := hb344 sh I J E) rfl ?_
  refine ev_run (n := 3) (u' := (17, 511)) (f' := (134, [some (.ref 138), none], [.ref 155, .ref 138])) (h' := hb345 sh I J E) rfl ?_
  refine ev_run (n := 1) (u' := (17, 511)) (f' := (137, [some (.ref 138), none], [])) (h' := hb346 sh I J E) rfl ?_
  refine ev_run (n := 3) (u' := (18, 516)) (f' := (141, [some (.ref 138), none], [.ref 156, .ref 138])) (h' := hb347 sh I J E) rfl ?_
  refine ev_run (n := 1) (u' := (18, 516)) (f' := (144, [some (.ref 138), none], [])) (h' := hb348 sh I J E) rfl ?_
  refine ev_run (n := 3) (u' := (19, 521)) (f' := (148, [some (.ref 138), none], [.ref 157, .ref 138])) (h' := hb349 sh I J E) rfl ?_
  refine ev_run (n := 1) (u' := (19, 521)) (f' := (151, [some (.ref 138), none], [])) (h' := hb350 sh I J E) rfl ?_
  refine ev_run (n := 3) (u' := (20, 526)) (f' := (155, [some (.ref 138), none], [.ref 158, .ref 138])) (h' := hb351 sh I J E) rfl ?_
  refine ev_run (n := 1) (u' := (20, 526)) (f' := (158, [some (.ref 138), none], [])) (h' := hb352 sh I J E) rfl ?_
  refine ev_run (n := 3) (u' := (21, 531)) (f' := (162, [some (.ref 138), none], [.ref 159, .ref 138])) (h' := hb353 sh I J E) rfl ?_
  refine ev_run (n := 1) (u' := (21, 531)) (f' := (165, [some (.ref 138), none], [])) (h' := hb354 sh I J E) rfl ?_
  refine ev_run (n := 3) (u' := (22, 536)) (f' := (169, [some (.ref 138), none], [.ref 160, .ref 138])) (h' := hb355 sh I J E) rfl ?_
  refine ev_run (n := 1) (u' := (22, 536)) (f' := (172, [some (.ref 138), none], [])) (h' := hb356 sh I J E) rfl ?_
  refine ev_run (n := 3) (u' := (23, 541)) (f' := (176, [some (.ref 138), none], [.ref 161, .ref 138])) (h' := hb357 sh I J E) rfl ?_
  refine ev_run (n := 1) (u' := (23, 541)) (f' := (179, [some (.ref 138), none], [])) (h' := hb358 sh I J E) rfl ?_
  refine ev_run (n := 3) (u' := (24, 546)) (f' := (183, [some (.ref 138), none], [.ref 162, .ref 138])) (h' := hb359 sh I J E) rfl ?_
  refine ev_run (n := 1) (u' := (24, 546)) (f' := (186, [some (.ref 138), none], [])) (h' := hb360 sh I J E) rfl ?_
  refine ev_run (n := 3) (u' := (25, 554)) (f' := (191, [some (.ref 138), none], [.ref 163, .ref 138])) (h' := hb361 sh I J E) rfl ?_
  refine ev_run (n := 1) (u' := (25, 554)) (f' := (194, [some (.ref 138), none], [])) (h' := hb362 sh I J E) rfl ?_
  refine ev_run (n := 3) (u' := (26, 562)) (f' := (199, [some (.ref 138), none], [.ref 164, .ref 138])) (h' := hb363 sh I J E) rfl ?_
  refine ev_run (n := 1) (u' := (26, 562)) (f' := (202, [some (.ref 138), none], [])) (h' := hb364 sh I J E) rfl ?_
  refine ev_run (n := 3) (u' := (27, 570)) (f' := (207, [some (.ref 138), none], [.ref 165, .ref 138])) (h' := hb365 sh I J E) rfl ?_
  refine ev_run (n := 1) (u' := (27, 570)) (f' := (210, [some (.ref 138), none], [])) (h' := hb366 sh I J E) rfl ?_
  refine ev_run (n := 3) (u' := (28, 582)) (f' := (215, [some (.ref 138), none], [.ref 166, .ref 138])) (h' := hb367 sh I J E) rfl ?_
  refine ev_run (n := 1) (u' := (28, 582)) (f' := (218, [some (.ref 138), none], [])) (h' := hb368 sh I J E) rfl ?_
  refine ev_run (n := 3) (u' := (29, 594)) (f' := (223, [some (.ref 138), none], [.ref 167, .ref 138])) (h' := hb369 sh I J E) rfl ?_
  refine ev_run (n := 1) (u' := (29, 594)) (f' := (226, [some (.ref 138), none], [])) (h' := hb370 sh I J E) rfl ?_
  refine ev_run (n := 3) (u' := (30, 606)) (f' := (231, [some (.ref 138), none], [.ref 168, .ref 138])) (h' := hb371 sh I J E) rfl ?_
  refine ev_run (n := 1) (u' := (30, 606)) (f' := (234, [some (.ref 138), none], [])) (h' := hb372 sh I J E) rfl ?_
  refine ev_run (n := 3) (u' := (31, 618)) (f' := (239, [some (.ref 138), none], [.ref 169, .ref 138])) (h' := hb373 sh I J E) rfl ?_
  refine ev_run (n := 1) (u' := (31, 618)) (f' := (242, [some (.ref 138), none], [])) (h' := hb374 sh I J E) rfl ?_
  refine ev_run (n := 3) (u' := (32, 630)) (f' := (247, [some (.ref 138), none], [.ref 170, .ref 138])) (h' := hb375 sh I J E) rfl ?_
  refine ev_run (n := 1) (u' := (32, 630)) (f' := (250, [some (.ref 138), none], [])) (h' := hb376 sh I J E) rfl ?_
  refine ev_run (n := 3) (u' := (33, 660)) (f' := (255, [some (.ref 138), none], [.ref 171, .ref 138])) (h' := hb377 sh I J E) rfl ?_
  refine ev_run (n := 1) (u' := (33, 660)) (f' := (258, [some (.ref 138), none], [])) (h' := hb378 sh I J E) rfl ?_
  refine ev_run (n := 3) (u' := (34, 690)) (f' := (263, [some (.ref 138), none], [.ref 172, .ref 138])) (h' := hb379 sh I J E) rfl ?_
  refine ev_run (n := 1) (u' := (34, 690)) (f' := (266, [some (.ref 138), none], [])) (h' := hb380 sh I J E) rfl ?_
  refine ev_run (n := 3) (u' := (34, 690)) (f' := (271, [some (.ref 138), none], [])) (h' := hb381 sh I J E) rfl ?_
  refine ev_run (n := 3) (u' := (35, 711)) (f' := (276, [some (.ref 138), none], [.ref 173, .ref 138])) (h' := hb382 sh I J E) rfl ?_
  refine ev_run (n := 1) (u' := (35, 711)) (f' := (279, [some (.ref 138), none], [])) (h' := hb383 sh I J E) rfl ?_
  refine ev_run (n := 3) (u' := (36, 723)) (f' := (284, [some (.ref 138), none], [.ref 174, .ref 138])) (h' := hb384 sh I J E) rfl ?_
  refine ev_run (n := 1) (u' := (36, 723)) (f' := (287, [some (.ref 138), none], [])) (h' := hb385 sh I J E) rfl ?_
  refine ev_run (n := 3) (u' := (37, 735)) (f' := (292, [some (.ref 138), none], [.ref 175, .ref 138])) (h' := hb386 sh I J E) rfl ?_
  refine ev_run (n := 1) (u' := (37, 735)) (f' := (295, [some (.ref 138), none], [])) (h' := hb387 sh I J E) rfl ?_
  refine ev_run (n := 3) (u' := (38, 747)) (f' := (300, [some (.ref 138), none], [.ref 176, .ref 138])) (h' := hb388 sh I J E) rfl ?_
  refine ev_run (n := 1) (u' := (38, 747)) (f' := (303, [some (.ref 138), none], [])) (h' := hb389 sh I J E) rfl ?_
  refine ev_run (n := 3) (u' := (39, 759)) (f' := (308, [some (.ref 138), none], [.ref 177, .ref 138])) (h' := hb390 sh I J E) rfl ?_
  refine ev_run (n := 1) (u' := (39, 759)) (f' := (311, [some (.ref 138), none], [])) (h' := hb391 sh I J E) rfl ?_
  refine ev_run (n := 3) (u' := (40, 771)) (f' := (316, [some (.ref 138), none], [.ref 178, .ref 138])) (h' := hb392 sh I J E) rfl ?_
  refine ev_run (n := 1) (u' := (40, 771)) (f' := (319, [some (.ref 138), none], [])) (h' := hb393 sh I J E) rfl ?_
  refine ev_run (n := 3) (u' := (41, 783)) (f' := (324, [some (.ref 138), none], [.ref 179, .ref 138])) (h' := hb394 sh I J E) rfl ?_
  refine ev_run (n := 1) (u' := (41, 783)) (f' := (327, [some (.ref 138), none], [])) (h' := hb395 sh I J E) rfl ?_
  refine ev_run (n := 3) (u' := (42, 795)) (f' := (332, [some (.ref 138), none], [.ref 180, .ref 138])) (h' := hb396 sh I J E) rfl ?_
  refine ev_run (n := 1) (u' := (42, 795)) (f' := (335, [some (.ref 138), none], [])) (h' := hb397 sh I J E) rfl ?_
  refine ev_run (n := 3) (u' := (43, 807)) (f' := (340, [some (.ref 138), none], [.ref 181, .ref 138])) (h' := hb398 sh I J E) rfl ?_
  refine ev_run (n := 1) (u' := (43, 807)) (f' := (343, [some (.ref 138), none], [])) (h' := hb399 sh I J E) rfl ?_
  refine ev_run (n := 3) (u' := (43, 807)) (f' := (348, [some (.ref 138), none], [])) (h' := hb400 sh I J E) rfl ?_
  refine ev_run (n := 3) (u' := (44, 8999)) (f' := (354, [some (.ref 138), none], [.ref 182, .ref 138])) (h' := hb401 sh I J E) rfl ?_
  refine ev_run (n := 1) (u' := (44, 8999)) (f' := (357, [some (.ref 138), none], [])) (h' := hb402 sh I J E) rfl ?_
  refine ev_run (n := 3) (u' := (45, 17191)) (f' := (363, [some (.ref 138), none], [.ref 183, .ref 138])) (h' := hb403 sh I J E) rfl ?_
  refine ev_run (n := 1) (u' := (45, 17191)) (f' := (366, [some (.ref 138), none], [])) (h' := hb404 sh I J E) rfl ?_
  refine ev_run (n := 3) (u' := (46, 25383)) (f' := (372, [some (.ref 138), none], [.ref 184, .ref 138])) (h' := hb405 sh I J E) rfl ?_
  refine ev_run (n := 1) (u' := (46, 25383)) (f' := (375, [some (.ref 138), none], [])) (h' := hb406 sh I J E) rfl ?_
  refine ev_run (n := 3) (u' := (47, 33575)) (f' := (381, [some (.ref 138), none], [.ref 185, .ref 138])) (h' := hb407 sh I J E) rfl ?_
  refine ev_run (n := 1) (u' := (47, 33575)) (f' := (384, [some (.ref 138), none], [])) (h' := hb408 sh I J E) rfl ?_
  refine ev_run (n := 3) (u' := (48, 33580)) (f' := (388, [some (.ref 138), none], [.ref 186, .ref 138])) (h' := hb409 sh I J E) rfl ?_
  refine ev_run (n := 1) (u' := (48, 33580)) (f' := (391, [some (.ref 138), none], [])) (h' := hb410 sh I J E) rfl ?_
  refine ev_run (n := 10) (u' := (48, 33580)) (f' := (405, [some (.ref 138), some (.int 0)], [])) (h' := hb411 sh I J E) rfl ?_
  refine ev_run (n := 10) (u' := (48, 33580)) (f' := (405, [some (.ref 138), some (.int 1)], [])) (h' := hb412 sh I J E) rfl ?_
  refine ev_run (n := 10) (u' := (48, 33580)) (f' := (405, [some (.ref 138), some (.int 2)], [])) (h' := hb413 sh I J E) rfl ?_
  refine ev_run (n := 10) (u' := (48, 33580)) (f' := (405, [some (.ref 138), some (.int 3)], [])) (h' := hb414 sh I J E) rfl ?_
  refine ev_run (n := 10) (u' := (48, 33580)) (f' := (405, [some (.ref 138), some (.int 4)], [])) (h' := hb415 sh I J E) rfl ?_
  refine ev_run (n := 15) (u' := (48, 33580)) (f' := (426, [some (.ref 138), some (.int 0)], [])) (h' := hb416 sh I J E) rfl ?_
  refine ev_run (n := 5) (u' := (48, 33580)) (f' := (433, [some (.ref 138), some (.int 0)], [])) (h' := hb417 sh I J E) rfl ?_
  refine ev_run (n := 5) (u' := (48, 33580)) (f' := (440, [some (.ref 138), some (.int 0)], [])) (h' := hb418 sh I J E) rfl ?_
  refine ev_run (n := 10) (u' := (48, 33580)) (f' := (426, [some (.ref 138), some (.int 1)], [])) (h' := hb419 sh I J E) rfl ?_
  refine ev_run (n := 5) (u' := (48, 33580)) (f' := (433, [some (.ref 138), some (.int 1)], [])) (h' := hb420 sh I J E) rfl ?_
  refine ev_run (n := 5) (u' := (48, 33580)) (f' := (440, [some (.ref 138), some (.int 1)], [])) (h' := hb421 sh I J E) rfl ?_
  refine ev_run (n := 10) (u' := (48, 33580)) (f' := (426, [some (.ref 138), some (.int 2)], [])) (h' := hb422 sh I J E) rfl ?_
  refine ev_run (n := 5) (u' := (48, 33580)) (f' := (433, [some (.ref 138), some (.int 2)], [])) (h' := hb423 sh I J E) rfl ?_
  refine ev_run (n := 5) (u' := (48, 33580)) (f' := (440, [some (.ref 138), some (.int 2)], [])) (h' := hb424 sh I J E) rfl ?_
  refine ev_run (n := 10) (u' := (48, 33580)) (f' := (426, [some (.ref 138), some (.int 3)], [])) (h' := hb425 sh I J E) rfl ?_
  refine ev_run (n := 5) (u' := (48, 33580)) (f' := (433, [some (.ref 138), some (.int 3)], [])) (h' := hb426 sh I J E) rfl ?_
  refine ev_run (n := 5) (u' := (48, 33580)) (f' := (440, [some (.ref 138), some (.int 3)], [])) (h' := hb427 sh I J E) rfl ?_
  refine ev_run (n := 10) (u' := (48, 33580)) (f' := (426, [some (.ref 138), some (.int 4)], [])) (h' := hb428 sh I J E) rfl ?_
  refine ev_run (n := 5) (u' := (48, 33580)) (f' := (433, [some (.ref 138), some (.int 4)], [])) (h' := hb429 sh I J E) rfl ?_
  refine ev_run (n := 5) (u' := (48, 33580)) (f' := (440, [some (.ref 138), some (.int 4)], [])) (h' := hb430 sh I J E) rfl ?_
  refine ev_run (n := 10) (u' := (48, 33580)) (f' := (426, [some (.ref 138), some (.int 5)], [])) (h' := hb431 sh I J E) rfl ?_
  refine ev_run (n := 5) (u' := (48, 33580)) (f' := (433, [some (.ref 138), some (.int 5)], [])) (h' := hb432 sh I J E) rfl ?_
  refine ev_run (n := 5) (u' := (48, 33580)) (f' := (440, [some (.ref 138), some (.int 5)], [])) (h' := hb433 sh I J E) rfl ?_
  refine ev_run (n := 10) (u' := (48, 33580)) (f' := (426, [some (.ref 138), some (.int 6)], [])) (h' := hb434 sh I J E) rfl ?_
  refine ev_run (n := 5) (u' := (48, 33580)) (f' := (433, [some (.ref 138), some (.int 6)], [])) (h' := hb435 sh I J E) rfl ?_
  refine ev_run (n := 5) (u' := (48, 33580)) (f' := (440, [some (.ref 138), some (.int 6)], [])) (h' := hb436 sh I J E) rfl ?_
  refine ev_run (n := 10) (u' := (48, 33580)) (f' := (426, [some (.ref 138), some (.int 7)], [])) (h' := hb437 sh I J E) rfl ?_
  refine ev_run (n := 5) (u' := (48, 33580)) (f' := (433, [some (.ref 138), some (.int 7)], [])) (h' := hb438 sh I J E) rfl ?_
  refine ev_run (n := 5) (u' := (48, 33580)) (f' := (440, [some (.ref 138), some (.int 7)], [])) (h' := hb439 sh I J E) rfl ?_
  refine ev_run (n := 10) (u' := (48, 33580)) (f' := (426, [some (.ref 138), some (.int 8)], [])) (h' := hb440 sh I J E) rfl ?_
  refine ev_run (n := 5) (u' := (48, 33580)) (f' := (433, [some (.ref 138), some (.int 8)], [])) (h' := hb441 sh I J E) rfl ?_
  refine ev_run (n := 5) (u' := (48, 33580)) (f' := (440, [some (.ref 138), some (.int 8)], [])) (h' := hb442 sh I J E) rfl ?_
  refine ev_run (n := 10) (u' := (48, 33580)) (f' := (426, [some (.ref 138), some (.int 9)], [])) (h' := hb443 sh I J E) rfl ?_
  refine ev_run (n := 5) (u' := (48, 33580)) (f' := (433, [some (.ref 138), some (.int 9)], [])) (h' := hb444 sh I J E) rfl ?_
  refine ev_run (n := 5) (u' := (48, 33580)) (f' := (440, [some (.ref 138), some (.int 9)], [])) (h' := hb445 sh I J E) rfl ?_
  refine ev_run (n := 10) (u' := (48, 33580)) (f' := (426, [some (.ref 138), some (.int 10)], [])) (h' := hb446 sh I J E) rfl ?_
  refine ev_run (n := 5) (u' := (48, 33580)) (f' := (433, [some (.ref 138), some (.int 10)], [])) (h' := hb447 sh I J E) rfl ?_
  refine ev_run (n := 5) (u' := (48, 33580)) (f' := (440, [some (.ref 138), some (.int 10)], [])) (h' := hb448 sh I J E) rfl ?_
  refine ev_run (n := 10) (u' := (48, 33580)) (f' := (426, [some (.ref 138), some (.int 11)], [])) (h' := hb449 sh I J E) rfl ?_
  refine ev_run (n := 5) (u' := (48, 33580)) (f' := (433, [some (.ref 138), some (.int 11)], [])) (h' := hb450 sh I J E) rfl ?_
  refine ev_run (n := 5) (u' := (48, 33580)) (f' := (440, [some (.ref 138), some (.int 11)], [])) (h' := hb451 sh I J E) rfl ?_
  refine ev_run (n := 10) (u' := (48, 33580)) (f' := (426, [some (.ref 138), some (.int 12)], [])) (h' := hb452 sh I J E) rfl ?_
  refine ev_run (n := 5) (u' := (48, 33580)) (f' := (433, [some (.ref 138), some (.int 12)], [])) (h' := hb453 sh I J E) rfl ?_
  refine ev_run (n := 5) (u' := (48, 33580)) (f' := (440, [some (.ref 138), some (.int 12)], [])) (h' := hb454 sh I J E) rfl ?_
  refine ev_run (n := 10) (u' := (48, 33580)) (f' := (426, [some (.ref 138), some (.int 13)], [])) (h' := hb455 sh I J E) rfl ?_
  refine ev_run (n := 5) (u' := (48, 33580)) (f' := (433, [some (.ref 138), some (.int 13)], [])) (h' := hb456 sh I J E) rfl ?_
  refine ev_run (n := 5) (u' := (48, 33580)) (f' := (440, [some (.ref 138), some (.int 13)], [])) (h' := hb457 sh I J E) rfl ?_
  refine ev_run (n := 10) (u' := (48, 33580)) (f' := (426, [some (.ref 138), some (.int 14)], [])) (h' := hb458 sh I J E) rfl ?_
  refine ev_run (n := 5) (u' := (48, 33580)) (f' := (433, [some (.ref 138), some (.int 14)], [])) (h' := hb459 sh I J E) rfl ?_
  refine ev_run (n := 5) (u' := (48, 33580)) (f' := (440, [some (.ref 138), some (.int 14)], [])) (h' := hb460 sh I J E) rfl ?_
  refine ev_run (n := 10) (u' := (48, 33580)) (f' := (426, [some (.ref 138), some (.int 15)], [])) (h' := hb461 sh I J E) rfl ?_
  refine ev_run (n := 5) (u' := (48, 33580)) (f' := (433, [some (.ref 138), some (.int 15)], [])) (h' := hb462 sh I J E) rfl ?_
  refine ev_run (n := 5) (u' := (48, 33580)) (f' := (440, [some (.ref 138), some (.int 15)], [])) (h' := hb463 sh I J E) rfl ?_
  refine ev_run (n := 10) (u' := (48, 33580)) (f' := (426, [some (.ref 138), some (.int 16)], [])) (h' := hb464 sh I J E) rfl ?_
  refine ev_run (n := 5) (u' := (48, 33580)) (f' := (433, [some (.ref 138), some (.int 16)], [])) (h' := hb465 sh I J E) rfl ?_
  refine ev_run (n := 5) (u' := (48, 33580)) (f' := (440, [some (.ref 138), some (.int 16)], [])) (h' := hb466 sh I J E) rfl ?_
  refine ev_run (n := 10) (u' := (48, 33580)) (f' := (426, [some (.ref 138), some (.int 17)], [])) (h' := hb467 sh I J E) rfl ?_
  refine ev_run (n := 5) (u' := (48, 33580)) (f' := (433, [some (.ref 138), some (.int 17)], [])) (h' := hb468 sh I J E) rfl ?_
  refine ev_run (n := 5) (u' := (48, 33580)) (f' := (440, [some (.ref 138), some (.int 17)], [])) (h' := hb469 sh I J E) rfl ?_
  refine ev_run (n := 10) (u' := (48, 33580)) (f' := (426, [some (.ref 138), some (.int 18)], [])) (h' := hb470 sh I J E) rfl ?_
  refine ev_run (n := 5) (u' := (48, 33580)) (f' := (433, [some (.ref 138), some (.int 18)], [])) (h' := hb471 sh I J E) rfl ?_
  refine ev_run (n := 5) (u' := (48, 33580)) (f' := (440, [some (.ref 138), some (.int 18)], [])) (h' := hb472 sh I J E) rfl ?_
  refine ev_run (n := 10) (u' := (48, 33580)) (f' := (426, [some (.ref 138), some (.int 19)], [])) (h' := hb473 sh I J E) rfl ?_
  refine ev_run (n := 5) (u' := (48, 33580)) (f' := (433, [some (.ref 138), some (.int 19)], [])) (h' := hb474 sh I J E) rfl ?_
  refine ev_run (n := 5) (u' := (48, 33580)) (f' := (440, [some (.ref 138), some (.int 19)], [])) (h' := hb475 sh I J E) rfl ?_
  refine ev_run (n := 15) (u' := (48, 33580)) (f' := (460, [some (.ref 138), some (.int 0)], [])) (h' := hb476 sh I J E) rfl ?_
  refine ev_run (n := 5) (u' := (48, 33580)) (f' := (469, [some (.ref 138), some (.int 0)], [])) (h' := hb477 sh I J E) rfl ?_
  refine ev_run (n := 10) (u' := (48, 33580)) (f' := (460, [some (.ref 138), some (.int 1)], [])) (h' := hb478 sh I J E) rfl ?_
  refine ev_run (n := 5) (u' := (48, 33580)) (f' := (469, [some (.ref 138), some (.int 1)], [])) (h' := hb479 sh I J E) rfl ?_
  refine ev_run (n := 10) (u' := (48, 33580)) (f' := (460, [some (.ref 138), some (.int 2)], [])) (h' := hb480 sh I J E) rfl ?_
  refine ev_run (n := 5) (u' := (48, 33580)) (f' := (469, [some (.ref 138), some (.int 2)], [])) (h' := hb481 sh I J E) rfl ?_
  refine ev_run (n := 10) (u' := (48, 33580)) (f' := (460, [some (.ref 138), some (.int 3)], [])) (h' := hb482 sh I J E) rfl ?_
  refine ev_run (n := 5) (u' := (48, 33580)) (f' := (469, [some (.ref 138), some (.int 3)], [])) (h' := hb483 sh I J E) rfl ?_
  refine ev_run (n := 10) (u' := (48, 33580)) (f' := (460, [some (.ref 138), some (.int 4)], [])) (h' := hb484 sh I J E) rfl ?_
  refine ev_run (n := 5) (u' := (48, 33580)) (f' := (469, [some (.ref 138), some (.int 4)], [])) (h' := hb485 sh I J E) rfl ?_
  refine ev_run (n := 15) (u' := (48, 33580)) (f' := (490, [some (.ref 138), some (.int 0)], [])) (h' := hb486 sh I J E) rfl ?_
  refine ev_run (n := 10) (u' := (48, 33580)) (f' := (490, [some (.ref 138), some (.int 1)], [])) (h' := hb487 sh I J E) rfl ?_
  refine ev_run (n := 10) (u' := (48, 33580)) (f' := (490, [some (.ref 138), some (.int 2)], [])) (h' := hb488 sh I J E) rfl ?_
  refine ev_run (n := 10) (u' := (48, 33580)) (f' := (490, [some (.ref 138), some (.int 3)], [])) (h' := hb489 sh I J E) rfl ?_
  refine ev_run (n := 10) (u' := (48, 33580)) (f' := (490, [some (.ref 138), some (.int 4)], [])) (h' := hb490 sh I J E) rfl ?_
  refine ev_run (n := 10) (u' := (48, 33580)) (f' := (490, [some (.ref 138), some (.int 5)], [])) (h' := hb491 sh I J E) rfl ?_
  refine ev_run (n := 10) (u' := (48, 33580)) (f' := (490, [some (.ref 138), some (.int 6)], [])) (h' := hb492 sh I J E) rfl ?_
  refine ev_run (n := 10) (u' := (48, 33580)) (f' := (490, [some (.ref 138), some (.int 7)], [])) (h' := hb493 sh I J E) rfl ?_
  refine ev_run (n := 10) (u' := (48, 33580)) (f' := (490, [some (.ref 138), some (.int 8)], [])) (h' := hb494 sh I J E) rfl ?_
  refine ev_run (n := 10) (u' := (48, 33580)) (f' := (490, [some (.ref 138), some (.int 9)], [])) (h' := hb495 sh I J E) rfl ?_
  refine ev_run (n := 10) (u' := (48, 33580)) (f' := (490, [some (.ref 138), some (.int 10)], [])) (h' := hb496 sh I J E) rfl ?_
  refine ev_run (n := 10) (u' := (48, 33580)) (f' := (490, [some (.ref 138), some (.int 11)], [])) (h' := hb497 sh I J E) rfl ?_
  refine ev_run (n := 10) (u' := (48, 33580)) (f' := (490, [some (.ref 138), some (.int 12)], [])) (h' := hb498 sh I J E) rfl ?_
  refine ev_run (n := 10) (u' := (48, 33580)) (f' := (490, [some (.ref 138), some (.int 13)], [])) (h' := hb499 sh I J E) rfl ?_
  refine ev_run (n := 10) (u' := (48, 33580)) (f' := (490, [some (.ref 138), some (.int 14)], [])) (h' := hb500 sh I J E) rfl ?_
  refine ev_run (n := 10) (u' := (48, 33580)) (f' := (490, [some (.ref 138), some (.int 15)], [])) (h' := hb501 sh I J E) rfl ?_
  refine ev_run (n := 10) (u' := (48, 33580)) (f' := (490, [some (.ref 138), some (.int 16)], [])) (h' := hb502 sh I J E) rfl ?_
  refine ev_run (n := 10) (u' := (48, 33580)) (f' := (490, [some (.ref 138), some (.int 17)], [])) (h' := hb503 sh I J E) rfl ?_
  refine ev_run (n := 10) (u' := (48, 33580)) (f' := (490, [some (.ref 138), some (.int 18)], [])) (h' := hb504 sh I J E) rfl ?_
  refine ev_run (n := 10) (u' := (48, 33580)) (f' := (490, [some (.ref 138), some (.int 19)], [])) (h' := hb505 sh I J E) rfl ?_
  refine ev_run (n := 10) (u' := (48, 33580)) (f' := (490, [some (.ref 138), some (.int 20)], [])) (h' := hb506 sh I J E) rfl ?_
  refine ev_run (n := 5) (u' := (48, 33580)) (f' := (496, [none, none], [])) (h' := hb506 sh I J E) rfl ?_
  exact ev_vret rfl rfl rfl
