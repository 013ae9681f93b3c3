/-! The constructors, run; printed by mkboot.py -/
def hb311 (L : Nat) (xs : Nat → Int32) : aHp := aNew (hb310 L xs) 110 58
def hb312 (L : Nat) (xs : Nat → Int32) : aHp := aNew (hb311 L xs) 0 5
def hb313 (L : Nat) (xs : Nat → Int32) : aHp := aShR (hb312 L xs) 138 2 (some 139)
def hb314 (L : Nat) (xs : Nat → Int32) : aHp := aNew (hb313 L xs) 0 24
def hb315 (L : Nat) (xs : Nat → Int32) : aHp := aShR (hb314 L xs) 138 4 (some 140)
def hb316 (L : Nat) (xs : Nat → Int32) : aHp := aNew (hb315 L xs) 0 24
def hb317 (L : Nat) (xs : Nat → Int32) : aHp := aShR (hb316 L xs) 138 5 (some 141)
def hb318 (L : Nat) (xs : Nat → Int32) : aHp := aNew (hb317 L xs) 0 120
def hb319 (L : Nat) (xs : Nat → Int32) : aHp := aShR (hb318 L xs) 138 6 (some 142)
def hb320 (L : Nat) (xs : Nat → Int32) : aHp := aNew (hb319 L xs) 0 120
def hb321 (L : Nat) (xs : Nat → Int32) : aHp := aShR (hb320 L xs) 138 7 (some 143)
def hb322 (L : Nat) (xs : Nat → Int32) : aHp := aNew (hb321 L xs) 0 24
def hb323 (L : Nat) (xs : Nat → Int32) : aHp := aShR (hb322 L xs) 138 8 (some 144)
def hb324 (L : Nat) (xs : Nat → Int32) : aHp := aNew (hb323 L xs) 1 24
def hb325 (L : Nat) (xs : Nat → Int32) : aHp := aShR (hb324 L xs) 138 9 (some 145)
def hb326 (L : Nat) (xs : Nat → Int32) : aHp := aNew (hb325 L xs) 0 5
def hb327 (L : Nat) (xs : Nat → Int32) : aHp := aShR (hb326 L xs) 138 10 (some 146)
def hb328 (L : Nat) (xs : Nat → Int32) : aHp := aNew (hb327 L xs) 0 20
def hb329 (L : Nat) (xs : Nat → Int32) : aHp := aShR (hb328 L xs) 138 11 (some 147)
def hb330 (L : Nat) (xs : Nat → Int32) : aHp := aNew (hb329 L xs) 0 20
def hb331 (L : Nat) (xs : Nat → Int32) : aHp := aShR (hb330 L xs) 138 12 (some 148)
def hb332 (L : Nat) (xs : Nat → Int32) : aHp := aNew (hb331 L xs) 0 20
def hb333 (L : Nat) (xs : Nat → Int32) : aHp := aShR (hb332 L xs) 138 13 (some 149)
def hb334 (L : Nat) (xs : Nat → Int32) : aHp := aNew (hb333 L xs) 0 20
def hb335 (L : Nat) (xs : Nat → Int32) : aHp := aShR (hb334 L xs) 138 14 (some 150)
def hb336 (L : Nat) (xs : Nat → Int32) : aHp := aNew (hb335 L xs) 0 20
def hb337 (L : Nat) (xs : Nat → Int32) : aHp := aShR (hb336 L xs) 138 15 (some 151)
def hb338 (L : Nat) (xs : Nat → Int32) : aHp := aNew (hb337 L xs) 0 20
def hb339 (L : Nat) (xs : Nat → Int32) : aHp := aShR (hb338 L xs) 138 16 (some 152)
def hb340 (L : Nat) (xs : Nat → Int32) : aHp := aNew (hb339 L xs) 0 20
def hb341 (L : Nat) (xs : Nat → Int32) : aHp := aShR (hb340 L xs) 138 17 (some 153)
def hb342 (L : Nat) (xs : Nat → Int32) : aHp := aNew (hb341 L xs) 0 20
def hb343 (L : Nat) (xs : Nat → Int32) : aHp := aShR (hb342 L xs) 138 18 (some 154)
def hb344 (L : Nat) (xs : Nat → Int32) : aHp := aNew (hb343 L xs) 0 5
def hb345 (L : Nat) (xs : Nat → Int32) : aHp := aShR (hb344 L xs) 138 19 (some 155)
def hb346 (L : Nat) (xs : Nat → Int32) : aHp := aNew (hb345 L xs) 0 5
def hb347 (L : Nat) (xs : Nat → Int32) : aHp := aShR (hb346 L xs) 138 20 (some 156)
def hb348 (L : Nat) (xs : Nat → Int32) : aHp := aNew (hb347 L xs) 1 5
def hb349 (L : Nat) (xs : Nat → Int32) : aHp := aShR (hb348 L xs) 138 21 (some 157)
def hb350 (L : Nat) (xs : Nat → Int32) : aHp := aNew (hb349 L xs) 0 5
def hb351 (L : Nat) (xs : Nat → Int32) : aHp := aShR (hb350 L xs) 138 22 (some 158)
def hb352 (L : Nat) (xs : Nat → Int32) : aHp := aNew (hb351 L xs) 0 5
def hb353 (L : Nat) (xs : Nat → Int32) : aHp := aShR (hb352 L xs) 138 23 (some 159)
def hb354 (L : Nat) (xs : Nat → Int32) : aHp := aNew (hb353 L xs) 0 5
def hb355 (L : Nat) (xs : Nat → Int32) : aHp := aShR (hb354 L xs) 138 24 (some 160)
def hb356 (L : Nat) (xs : Nat → Int32) : aHp := aNew (hb355 L xs) 0 5
def hb357 (L : Nat) (xs : Nat → Int32) : aHp := aShR (hb356 L xs) 138 25 (some 161)
def hb358 (L : Nat) (xs : Nat → Int32) : aHp := aNew (hb357 L xs) 0 5
def hb359 (L : Nat) (xs : Nat → Int32) : aHp := aShR (hb358 L xs) 138 26 (some 162)
def hb360 (L : Nat) (xs : Nat → Int32) : aHp := aNew (hb359 L xs) 0 8
def hb361 (L : Nat) (xs : Nat → Int32) : aHp := aShR (hb360 L xs) 138 28 (some 163)
def hb362 (L : Nat) (xs : Nat → Int32) : aHp := aNew (hb361 L xs) 0 8
def hb363 (L : Nat) (xs : Nat → Int32) : aHp := aShR (hb362 L xs) 138 29 (some 164)
def hb364 (L : Nat) (xs : Nat → Int32) : aHp := aNew (hb363 L xs) 0 8
def hb365 (L : Nat) (xs : Nat → Int32) : aHp := aShR (hb364 L xs) 138 30 (some 165)
def hb366 (L : Nat) (xs : Nat → Int32) : aHp := aNew (hb365 L xs) 0 12
def hb367 (L : Nat) (xs : Nat → Int32) : aHp := aShR (hb366 L xs) 138 32 (some 166)
def hb368 (L : Nat) (xs : Nat → Int32) : aHp := aNew (hb367 L xs) 0 12
def hb369 (L : Nat) (xs : Nat → Int32) : aHp := aShR (hb368 L xs) 138 33 (some 167)
def hb370 (L : Nat) (xs : Nat → Int32) : aHp := aNew (hb369 L xs) 0 12
def hb371 (L : Nat) (xs : Nat → Int32) : aHp := aShR (hb370 L xs) 138 34 (some 168)
def hb372 (L : Nat) (xs : Nat → Int32) : aHp := aNew (hb371 L xs) 0 12
def hb373 (L : Nat) (xs : Nat → Int32) : aHp := aShR (hb372 L xs) 138 35 (some 169)
def hb374 (L : Nat) (xs : Nat → Int32) : aHp := aNew (hb373 L xs) 1 12
def hb375 (L : Nat) (xs : Nat → Int32) : aHp := aShR (hb374 L xs) 138 36 (some 170)
def hb376 (L : Nat) (xs : Nat → Int32) : aHp := aNew (hb375 L xs) 0 30
def hb377 (L : Nat) (xs : Nat → Int32) : aHp := aShR (hb376 L xs) 138 38 (some 171)
def hb378 (L : Nat) (xs : Nat → Int32) : aHp := aNew (hb377 L xs) 0 30
def hb379 (L : Nat) (xs : Nat → Int32) : aHp := aShR (hb378 L xs) 138 39 (some 172)
def hb380 (L : Nat) (xs : Nat → Int32) : aHp := aWI (hb379 L xs) 138 40 1
def hb381 (L : Nat) (xs : Nat → Int32) : aHp := aNew (hb380 L xs) 0 21
def hb382 (L : Nat) (xs : Nat → Int32) : aHp := aShR (hb381 L xs) 138 41 (some 173)
def hb383 (L : Nat) (xs : Nat → Int32) : aHp := aNew (hb382 L xs) 0 12
def hb384 (L : Nat) (xs : Nat → Int32) : aHp := aShR (hb383 L xs) 138 43 (some 174)
def hb385 (L : Nat) (xs : Nat → Int32) : aHp := aNew (hb384 L xs) 0 12
def hb386 (L : Nat) (xs : Nat → Int32) : aHp := aShR (hb385 L xs) 138 44 (some 175)
def hb387 (L : Nat) (xs : Nat → Int32) : aHp := aNew (hb386 L xs) 0 12
def hb388 (L : Nat) (xs : Nat → Int32) : aHp := aShR (hb387 L xs) 138 45 (some 176)
def hb389 (L : Nat) (xs : Nat → Int32) : aHp := aNew (hb388 L xs) 0 12
def hb390 (L : Nat) (xs : Nat → Int32) : aHp := aShR (hb389 L xs) 138 46 (some 177)
def hb391 (L : Nat) (xs : Nat → Int32) : aHp := aNew (hb390 L xs) 0 12
def hb392 (L : Nat) (xs : Nat → Int32) : aHp := aShR (hb391 L xs) 138 47 (some 178)
def hb393 (L : Nat) (xs : Nat → Int32) : aHp := aNew (hb392 L xs) 0 12
def hb394 (L : Nat) (xs : Nat → Int32) : aHp := aShR (hb393 L xs) 138 48 (some 179)
def hb395 (L : Nat) (xs : Nat → Int32) : aHp := aNew (hb394 L xs) 0 12
def hb396 (L : Nat) (xs : Nat → Int32) : aHp := aShR (hb395 L xs) 138 49 (some 180)
def hb397 (L : Nat) (xs : Nat → Int32) : aHp := aNew (hb396 L xs) 1 12
def hb398 (L : Nat) (xs : Nat → Int32) : aHp := aShR (hb397 L xs) 138 50 (some 181)
def hb399 (L : Nat) (xs : Nat → Int32) : aHp := aWI (hb398 L xs) 138 51 (-1)
def hb400 (L : Nat) (xs : Nat → Int32) : aHp := aNew (hb399 L xs) 0 8192
def hb401 (L : Nat) (xs : Nat → Int32) : aHp := aShR (hb400 L xs) 138 52 (some 182)
def hb402 (L : Nat) (xs : Nat → Int32) : aHp := aNew (hb401 L xs) 0 8192
def hb403 (L : Nat) (xs : Nat → Int32) : aHp := aShR (hb402 L xs) 138 53 (some 183)
def hb404 (L : Nat) (xs : Nat → Int32) : aHp := aNew (hb403 L xs) 0 8192
def hb405 (L : Nat) (xs : Nat → Int32) : aHp := aShR (hb404 L xs) 138 54 (some 184)
def hb406 (L : Nat) (xs : Nat → Int32) : aHp := aNew (hb405 L xs) 0 8192
def hb407 (L : Nat) (xs : Nat → Int32) : aHp := aShR (hb406 L xs) 138 55 (some 185)
def hb408 (L : Nat) (xs : Nat → Int32) : aHp := aNew (hb407 L xs) 0 5
def hb409 (L : Nat) (xs : Nat → Int32) : aHp := aShR (hb408 L xs) 138 56 (some 186)
def hb410 (L : Nat) (xs : Nat → Int32) : aHp := aWI (hb409 L xs) 146 0 (-1)
def hb411 (L : Nat) (xs : Nat → Int32) : aHp := aWI (hb410 L xs) 146 1 (-1)
def hb412 (L : Nat) (xs : Nat → Int32) : aHp := aWI (hb411 L xs) 146 2 (-1)
def hb413 (L : Nat) (xs : Nat → Int32) : aHp := aWI (hb412 L xs) 146 3 (-1)
def hb414 (L : Nat) (xs : Nat → Int32) : aHp := aWI (hb413 L xs) 146 4 (-1)
def hb415 (L : Nat) (xs : Nat → Int32) : aHp := aWI (hb414 L xs) 147 0 (-1)
def hb416 (L : Nat) (xs : Nat → Int32) : aHp := aWI (hb415 L xs) 148 0 (-1)
def hb417 (L : Nat) (xs : Nat → Int32) : aHp := aWI (hb416 L xs) 149 0 (-1)
def hb418 (L : Nat) (xs : Nat → Int32) : aHp := aWI (hb417 L xs) 147 1 (-1)
def hb419 (L : Nat) (xs : Nat → Int32) : aHp := aWI (hb418 L xs) 148 1 (-1)
def hb420 (L : Nat) (xs : Nat → Int32) : aHp := aWI (hb419 L xs) 149 1 (-1)
def hb421 (L : Nat) (xs : Nat → Int32) : aHp := aWI (hb420 L xs) 147 2 (-1)
def hb422 (L : Nat) (xs : Nat → Int32) : aHp := aWI (hb421 L xs) 148 2 (-1)
def hb423 (L : Nat) (xs : Nat → Int32) : aHp := aWI (hb422 L xs) 149 2 (-1)
def hb424 (L : Nat) (xs : Nat → Int32) : aHp := aWI (hb423 L xs) 147 3 (-1)
def hb425 (L : Nat) (xs : Nat → Int32) : aHp := aWI (hb424 L xs) 148 3 (-1)
def hb426 (L : Nat) (xs : Nat → Int32) : aHp := aWI (hb425 L xs) 149 3 (-1)
def hb427 (L : Nat) (xs : Nat → Int32) : aHp := aWI (hb426 L xs) 147 4 (-1)
def hb428 (L : Nat) (xs : Nat → Int32) : aHp := aWI (hb427 L xs) 148 4 (-1)
def hb429 (L : Nat) (xs : Nat → Int32) : aHp := aWI (hb428 L xs) 149 4 (-1)
def hb430 (L : Nat) (xs : Nat → Int32) : aHp := aWI (hb429 L xs) 147 5 (-1)
def hb431 (L : Nat) (xs : Nat → Int32) : aHp := aWI (hb430 L xs) 148 5 (-1)
def hb432 (L : Nat) (xs : Nat → Int32) : aHp := aWI (hb431 L xs) 149 5 (-1)
def hb433 (L : Nat) (xs : Nat → Int32) : aHp := aWI (hb432 L xs) 147 6 (-1)
def hb434 (L : Nat) (xs : Nat → Int32) : aHp := aWI (hb433 L xs) 148 6 (-1)
def hb435 (L : Nat) (xs : Nat → Int32) : aHp := aWI (hb434 L xs) 149 6 (-1)
def hb436 (L : Nat) (xs : Nat → Int32) : aHp := aWI (hb435 L xs) 147 7 (-1)
def hb437 (L : Nat) (xs : Nat → Int32) : aHp := aWI (hb436 L xs) 148 7 (-1)
def hb438 (L : Nat) (xs : Nat → Int32) : aHp := aWI (hb437 L xs) 149 7 (-1)
def hb439 (L : Nat) (xs : Nat → Int32) : aHp := aWI (hb438 L xs) 147 8 (-1)
def hb440 (L : Nat) (xs : Nat → Int32) : aHp := aWI (hb439 L xs) 148 8 (-1)
def hb441 (L : Nat) (xs : Nat → Int32) : aHp := aWI (hb440 L xs) 149 8 (-1)
def hb442 (L : Nat) (xs : Nat → Int32) : aHp := aWI (hb441 L xs) 147 9 (-1)
def hb443 (L : Nat) (xs : Nat → Int32) : aHp := aWI (hb442 L xs) 148 9 (-1)
def hb444 (L : Nat) (xs : Nat → Int32) : aHp := aWI (hb443 L xs) 149 9 (-1)
def hb445 (L : Nat) (xs : Nat → Int32) : aHp := aWI (hb444 L xs) 147 10 (-1)
def hb446 (L : Nat) (xs : Nat → Int32) : aHp := aWI (hb445 L xs) 148 10 (-1)
def hb447 (L : Nat) (xs : Nat → Int32) : aHp := aWI (hb446 L xs) 149 10 (-1)
def hb448 (L : Nat) (xs : Nat → Int32) : aHp := aWI (hb447 L xs) 147 11 (-1)
def hb449 (L : Nat) (xs : Nat → Int32) : aHp := aWI (hb448 L xs) 148 11 (-1)
def hb450 (L : Nat) (xs : Nat → Int32) : aHp := aWI (hb449 L xs) 149 11 (-1)
def hb451 (L : Nat) (xs : Nat → Int32) : aHp := aWI (hb450 L xs) 147 12 (-1)
def hb452 (L : Nat) (xs : Nat → Int32) : aHp := aWI (hb451 L xs) 148 12 (-1)
def hb453 (L : Nat) (xs : Nat → Int32) : aHp := aWI (hb452 L xs) 149 12 (-1)
def hb454 (L : Nat) (xs : Nat → Int32) : aHp := aWI (hb453 L xs) 147 13 (-1)
def hb455 (L : Nat) (xs : Nat → Int32) : aHp := aWI (hb454 L xs) 148 13 (-1)
def hb456 (L : Nat) (xs : Nat → Int32) : aHp := aWI (hb455 L xs) 149 13 (-1)
def hb457 (L : Nat) (xs : Nat → Int32) : aHp := aWI (hb456 L xs) 147 14 (-1)
def hb458 (L : Nat) (xs : Nat → Int32) : aHp := aWI (hb457 L xs) 148 14 (-1)
def hb459 (L : Nat) (xs : Nat → Int32) : aHp := aWI (hb458 L xs) 149 14 (-1)
def hb460 (L : Nat) (xs : Nat → Int32) : aHp := aWI (hb459 L xs) 147 15 (-1)
def hb461 (L : Nat) (xs : Nat → Int32) : aHp := aWI (hb460 L xs) 148 15 (-1)
def hb462 (L : Nat) (xs : Nat → Int32) : aHp := aWI (hb461 L xs) 149 15 (-1)
def hb463 (L : Nat) (xs : Nat → Int32) : aHp := aWI (hb462 L xs) 147 16 (-1)
def hb464 (L : Nat) (xs : Nat → Int32) : aHp := aWI (hb463 L xs) 148 16 (-1)
def hb465 (L : Nat) (xs : Nat → Int32) : aHp := aWI (hb464 L xs) 149 16 (-1)
def hb466 (L : Nat) (xs : Nat → Int32) : aHp := aWI (hb465 L xs) 147 17 (-1)
def hb467 (L : Nat) (xs : Nat → Int32) : aHp := aWI (hb466 L xs) 148 17 (-1)
def hb468 (L : Nat) (xs : Nat → Int32) : aHp := aWI (hb467 L xs) 149 17 (-1)
def hb469 (L : Nat) (xs : Nat → Int32) : aHp := aWI (hb468 L xs) 147 18 (-1)
def hb470 (L : Nat) (xs : Nat → Int32) : aHp := aWI (hb469 L xs) 148 18 (-1)
def hb471 (L : Nat) (xs : Nat → Int32) : aHp := aWI (hb470 L xs) 149 18 (-1)
def hb472 (L : Nat) (xs : Nat → Int32) : aHp := aWI (hb471 L xs) 147 19 (-1)
def hb473 (L : Nat) (xs : Nat → Int32) : aHp := aWI (hb472 L xs) 148 19 (-1)
def hb474 (L : Nat) (xs : Nat → Int32) : aHp := aWI (hb473 L xs) 149 19 (-1)
def hb475 (L : Nat) (xs : Nat → Int32) : aHp := aWI (hb474 L xs) 155 0 (-1)
def hb476 (L : Nat) (xs : Nat → Int32) : aHp := aWI (hb475 L xs) 159 0 1000
def hb477 (L : Nat) (xs : Nat → Int32) : aHp := aWI (hb476 L xs) 155 1 (-1)
def hb478 (L : Nat) (xs : Nat → Int32) : aHp := aWI (hb477 L xs) 159 1 1000
def hb479 (L : Nat) (xs : Nat → Int32) : aHp := aWI (hb478 L xs) 155 2 (-1)
def hb480 (L : Nat) (xs : Nat → Int32) : aHp := aWI (hb479 L xs) 159 2 1000
def hb481 (L : Nat) (xs : Nat → Int32) : aHp := aWI (hb480 L xs) 155 3 (-1)
def hb482 (L : Nat) (xs : Nat → Int32) : aHp := aWI (hb481 L xs) 159 3 1000
def hb483 (L : Nat) (xs : Nat → Int32) : aHp := aWI (hb482 L xs) 155 4 (-1)
def hb484 (L : Nat) (xs : Nat → Int32) : aHp := aWI (hb483 L xs) 159 4 1000
def hb485 (L : Nat) (xs : Nat → Int32) : aHp := aWI (hb484 L xs) 173 0 (-1)
def hb486 (L : Nat) (xs : Nat → Int32) : aHp := aWI (hb485 L xs) 173 1 (-1)
def hb487 (L : Nat) (xs : Nat → Int32) : aHp := aWI (hb486 L xs) 173 2 (-1)
def hb488 (L : Nat) (xs : Nat → Int32) : aHp := aWI (hb487 L xs) 173 3 (-1)
def hb489 (L : Nat) (xs : Nat → Int32) : aHp := aWI (hb488 L xs) 173 4 (-1)
def hb490 (L : Nat) (xs : Nat → Int32) : aHp := aWI (hb489 L xs) 173 5 (-1)
def hb491 (L : Nat) (xs : Nat → Int32) : aHp := aWI (hb490 L xs) 173 6 (-1)
def hb492 (L : Nat) (xs : Nat → Int32) : aHp := aWI (hb491 L xs) 173 7 (-1)
def hb493 (L : Nat) (xs : Nat → Int32) : aHp := aWI (hb492 L xs) 173 8 (-1)
def hb494 (L : Nat) (xs : Nat → Int32) : aHp := aWI (hb493 L xs) 173 9 (-1)
def hb495 (L : Nat) (xs : Nat → Int32) : aHp := aWI (hb494 L xs) 173 10 (-1)
def hb496 (L : Nat) (xs : Nat → Int32) : aHp := aWI (hb495 L xs) 173 11 (-1)
def hb497 (L : Nat) (xs : Nat → Int32) : aHp := aWI (hb496 L xs) 173 12 (-1)
def hb498 (L : Nat) (xs : Nat → Int32) : aHp := aWI (hb497 L xs) 173 13 (-1)
def hb499 (L : Nat) (xs : Nat → Int32) : aHp := aWI (hb498 L xs) 173 14 (-1)
def hb500 (L : Nat) (xs : Nat → Int32) : aHp := aWI (hb499 L xs) 173 15 (-1)
def hb501 (L : Nat) (xs : Nat → Int32) : aHp := aWI (hb500 L xs) 173 16 (-1)
def hb502 (L : Nat) (xs : Nat → Int32) : aHp := aWI (hb501 L xs) 173 17 (-1)
def hb503 (L : Nat) (xs : Nat → Int32) : aHp := aWI (hb502 L xs) 173 18 (-1)
def hb504 (L : Nat) (xs : Nat → Int32) : aHp := aWI (hb503 L xs) 173 19 (-1)
def hb505 (L : Nat) (xs : Nat → Int32) : aHp := aWI (hb504 L xs) 173 20 (-1)
set_option maxHeartbeats 20000000 in
set_option maxRecDepth 100000 in
theorem bt44 (L : Nat) (xs : Nat → Int32) : Ev 111 (0, 0) (0, aPad [.ref 138] 2, []) (hb311 L xs) (.inl none, hb505 L xs) := by
  refine ev_run (n := 5) (u' := (1, 5)) (f' := (8, [some (.ref 138), none], [.ref 139, .ref 138])) (h' := hb312 L xs) rfl ?_
  refine ev_run (n := 1) (u' := (1, 5)) (f' := (11, [some (.ref 138), none], [])) (h' := hb313 L xs) rfl ?_
  refine ev_run (n := 3) (u' := (2, 29)) (f' := (16, [some (.ref 138), none], [.ref 140, .ref 138])) (h' := hb314 L xs) rfl ?_
  refine ev_run (n := 1) (u' := (2, 29)) (f' := (19, [some (.ref 138), none], [])) (h' := hb315 L xs) rfl ?_
  refine ev_run (n := 3) (u' := (3, 53)) (f' := (24, [some (.ref 138), none], [.ref 141, .ref 138])) (h' := hb316 L xs) rfl ?_
  refine ev_run (n := 1) (u' := (3, 53)) (f' := (27, [some (.ref 138), none], [])) (h' := hb317 L xs) rfl ?_
  refine ev_run (n := 3) (u' := (4, 173)) (f' := (32, [some (.ref 138), none], [.ref 142, .ref 138])) (h' := hb318 L xs) rfl ?_
  refine ev_run (n := 1) (u' := (4, 173)) (f' := (35, [some (.ref 138), none], [])) (h' := hb319 L xs) rfl ?_
  refine ev_run (n := 3) (u' := (5, 293)) (f' := (40, [some (.ref 138), none], [.ref 143, .ref 138])) (h' := hb320 L xs) rfl ?_
  refine ev_run (n := 1) (u' := (5, 293)) (f' := (43, [some (.ref 138), none], [])) (h' := hb321 L xs) rfl ?_
  refine ev_run (n := 3) (u' := (6, 317)) (f' := (48, [some (.ref 138), none], [.ref 144, .ref 138])) (h' := hb322 L xs) rfl ?_
  refine ev_run (n := 1) (u' := (6, 317)) (f' := (51, [some (.ref 138), none], [])) (h' := hb323 L xs) rfl ?_
  refine ev_run (n := 3) (u' := (7, 341)) (f' := (56, [some (.ref 138), none], [.ref 145, .ref 138])) (h' := hb324 L xs) rfl ?_
  refine ev_run (n := 1) (u' := (7, 341)) (f' := (59, [some (.ref 138), none], [])) (h' := hb325 L xs) rfl ?_
  refine ev_run (n := 3) (u' := (8, 346)) (f' := (63, [some (.ref 138), none], [.ref 146, .ref 138])) (h' := hb326 L xs) rfl ?_
  refine ev_run (n := 1) (u' := (8, 346)) (f' := (66, [some (.ref 138), none], [])) (h' := hb327 L xs) rfl ?_
  refine ev_run (n := 3) (u' := (9, 366)) (f' := (71, [some (.ref 138), none], [.ref 147, .ref 138])) (h' := hb328 L xs) rfl ?_
  refine ev_run (n := 1) (u' := (9, 366)) (f' := (74, [some (.ref 138), none], [])) (h' := hb329 L xs) rfl ?_
  refine ev_run (n := 3) (u' := (10, 386)) (f' := (79, [some (.ref 138), none], [.ref 148, .ref 138])) (h' := hb330 L xs) rfl ?_
  refine ev_run (n := 1) (u' := (10, 386)) (f' := (82, [some (.ref 138), none], [])) (h' := hb331 L xs) rfl ?_
  refine ev_run (n := 3) (u' := (11, 406)) (f' := (87, [some (.ref 138), none], [.ref 149, .ref 138])) (h' := hb332 L xs) rfl ?_
  refine ev_run (n := 1) (u' := (11, 406)) (f' := (90, [some (.ref 138), none], [])) (h' := hb333 L xs) rfl ?_
  refine ev_run (n := 3) (u' := (12, 426)) (f' := (95, [some (.ref 138), none], [.ref 150, .ref 138])) (h' := hb334 L xs) rfl ?_
  refine ev_run (n := 1) (u' := (12, 426)) (f' := (98, [some (.ref 138), none], [])) (h' := hb335 L xs) rfl ?_
  refine ev_run (n := 3) (u' := (13, 446)) (f' := (103, [some (.ref 138), none], [.ref 151, .ref 138])) (h' := hb336 L xs) rfl ?_
  refine ev_run (n := 1) (u' := (13, 446)) (f' := (106, [some (.ref 138), none], [])) (h' := hb337 L xs) rfl ?_
  refine ev_run (n := 3) (u' := (14, 466)) (f' := (111, [some (.ref 138), none], [.ref 152, .ref 138])) (h' := hb338 L xs) rfl ?_
  refine ev_run (n := 1) (u' := (14, 466)) (f' := (114, [some (.ref 138), none], [])) (h' := hb339 L xs) rfl ?_
  refine ev_run (n := 3) (u' := (15, 486)) (f' := (119, [some (.ref 138), none], [.ref 153, .ref 138])) (h' := hb340 L xs) rfl ?_
  refine ev_run (n := 1) (u' := (15, 486)) (f' := (122, [some (.ref 138), none], [])) (h' := hb341 L xs) rfl ?_
  refine ev_run (n := 3) (u' := (16, 506)) (f' := (127, [some (.ref 138), none], [.ref 154, .ref 138])) (h' := hb342 L xs) rfl ?_
  refine ev_run (n := 1) (u' := (16, 506)) (f' := (130, [some (.ref 138), none], [])) (h' := hb343 L xs) rfl ?_
  refine ev_run (n := 3) (u' := (17, 511)) (f' := (134, [some (.ref 138), none], [.ref 155, .ref 138])) (h' := hb344 L xs) rfl ?_
  refine ev_run (n := 1) (u' := (17, 511)) (f' := (137, [some (.ref 138), none], [])) (h' := hb345 L xs) rfl ?_
  refine ev_run (n := 3) (u' := (18, 516)) (f' := (141, [some (.ref 138), none], [.ref 156, .ref 138])) (h' := hb346 L xs) rfl ?_
  refine ev_run (n := 1) (u' := (18, 516)) (f' := (144, [some (.ref 138), none], [])) (h' := hb347 L xs) rfl ?_
  refine ev_run (n := 3) (u' := (19, 521)) (f' := (148, [some (.ref 138), none], [.ref 157, .ref 138])) (h' := hb348 L xs) rfl ?_
  refine ev_run (n := 1) (u' := (19, 521)) (f' := (151, [some (.ref 138), none], [])) (h' := hb349 L xs) rfl ?_
  refine ev_run (n := 3) (u' := (20, 526)) (f' := (155, [some (.ref 138), none], [.ref 158, .ref 138])) (h' := hb350 L xs) rfl ?_
  refine ev_run (n := 1) (u' := (20, 526)) (f' := (158, [some (.ref 138), none], [])) (h' := hb351 L xs) rfl ?_
  refine ev_run (n := 3) (u' := (21, 531)) (f' := (162, [some (.ref 138), none], [.ref 159, .ref 138])) (h' := hb352 L xs) rfl ?_
  refine ev_run (n := 1) (u' := (21, 531)) (f' := (165, [some (.ref 138), none], [])) (h' := hb353 L xs) rfl ?_
  refine ev_run (n := 3) (u' := (22, 536)) (f' := (169, [some (.ref 138), none], [.ref 160, .ref 138])) (h' := hb354 L xs) rfl ?_
  refine ev_run (n := 1) (u' := (22, 536)) (f' := (172, [some (.ref 138), none], [])) (h' := hb355 L xs) rfl ?_
  refine ev_run (n := 3) (u' := (23, 541)) (f' := (176, [some (.ref 138), none], [.ref 161, .ref 138])) (h' := hb356 L xs) rfl ?_
  refine ev_run (n := 1) (u' := (23, 541)) (f' := (179, [some (.ref 138), none], [])) (h' := hb357 L xs) rfl ?_
  refine ev_run (n := 3) (u' := (24, 546)) (f' := (183, [some (.ref 138), none], [.ref 162, .ref 138])) (h' := hb358 L xs) rfl ?_
  refine ev_run (n := 1) (u' := (24, 546)) (f' := (186, [some (.ref 138), none], [])) (h' := hb359 L xs) rfl ?_
  refine ev_run (n := 3) (u' := (25, 554)) (f' := (191, [some (.ref 138), none], [.ref 163, .ref 138])) (h' := hb360 L xs) rfl ?_
  refine ev_run (n := 1) (u' := (25, 554)) (f' := (194, [some (.ref 138), none], [])) (h' := hb361 L xs) rfl ?_
  refine ev_run (n := 3) (u' := (26, 562)) (f' := (199, [some (.ref 138), none], [.ref 164, .ref 138])) (h' := hb362 L xs) rfl ?_
  refine ev_run (n := 1) (u' := (26, 562)) (f' := (202, [some (.ref 138), none], [])) (h' := hb363 L xs) rfl ?_
  refine ev_run (n := 3) (u' := (27, 570)) (f' := (207, [some (.ref 138), none], [.ref 165, .ref 138])) (h' := hb364 L xs) rfl ?_
  refine ev_run (n := 1) (u' := (27, 570)) (f' := (210, [some (.ref 138), none], [])) (h' := hb365 L xs) rfl ?_
  refine ev_run (n := 3) (u' := (28, 582)) (f' := (215, [some (.ref 138), none], [.ref 166, .ref 138])) (h' := hb366 L xs) rfl ?_
  refine ev_run (n := 1) (u' := (28, 582)) (f' := (218, [some (.ref 138), none], [])) (h' := hb367 L xs) rfl ?_
  refine ev_run (n := 3) (u' := (29, 594)) (f' := (223, [some (.ref 138), none], [.ref 167, .ref 138])) (h' := hb368 L xs) rfl ?_
  refine ev_run (n := 1) (u' := (29, 594)) (f' := (226, [some (.ref 138), none], [])) (h' := hb369 L xs) rfl ?_
  refine ev_run (n := 3) (u' := (30, 606)) (f' := (231, [some (.ref 138), none], [.ref 168, .ref 138])) (h' := hb370 L xs) rfl ?_
  refine ev_run (n := 1) (u' := (30, 606)) (f' := (234, [some (.ref 138), none], [])) (h' := hb371 L xs) rfl ?_
  refine ev_run (n := 3) (u' := (31, 618)) (f' := (239, [some (.ref 138), none], [.ref 169, .ref 138])) (h' := hb372 L xs) rfl ?_
  refine ev_run (n := 1) (u' := (31, 618)) (f' := (242, [some (.ref 138), none], [])) (h' := hb373 L xs) rfl ?_
  refine ev_run (n := 3) (u' := (32, 630)) (f' := (247, [some (.ref 138), none], [.ref 170, .ref 138])) (h' := hb374 L xs) rfl ?_
  refine ev_run (n := 1) (u' := (32, 630)) (f' := (250, [some (.ref 138), none], [])) (h' := hb375 L xs) rfl ?_
  refine ev_run (n := 3) (u' := (33, 660)) (f' := (255, [some (.ref 138), none], [.ref 171, .ref 138])) (h' := hb376 L xs) rfl ?_
  refine ev_run (n := 1) (u' := (33, 660)) (f' := (258, [some (.ref 138), none], [])) (h' := hb377 L xs) rfl ?_
  refine ev_run (n := 3) (u' := (34, 690)) (f' := (263, [some (.ref 138), none], [.ref 172, .ref 138])) (h' := hb378 L xs) rfl ?_
  refine ev_run (n := 1) (u' := (34, 690)) (f' := (266, [some (.ref 138), none], [])) (h' := hb379 L xs) rfl ?_
  refine ev_run (n := 3) (u' := (34, 690)) (f' := (271, [some (.ref 138), none], [])) (h' := hb380 L xs) rfl ?_
  refine ev_run (n := 3) (u' := (35, 711)) (f' := (276, [some (.ref 138), none], [.ref 173, .ref 138])) (h' := hb381 L xs) rfl ?_
  refine ev_run (n := 1) (u' := (35, 711)) (f' := (279, [some (.ref 138), none], [])) (h' := hb382 L xs) rfl ?_
  refine ev_run (n := 3) (u' := (36, 723)) (f' := (284, [some (.ref 138), none], [.ref 174, .ref 138])) (h' := hb383 L xs) rfl ?_
  refine ev_run (n := 1) (u' := (36, 723)) (f' := (287, [some (.ref 138), none], [])) (h' := hb384 L xs) rfl ?_
  refine ev_run (n := 3) (u' := (37, 735)) (f' := (292, [some (.ref 138), none], [.ref 175, .ref 138])) (h' := hb385 L xs) rfl ?_
  refine ev_run (n := 1) (u' := (37, 735)) (f' := (295, [some (.ref 138), none], [])) (h' := hb386 L xs) rfl ?_
  refine ev_run (n := 3) (u' := (38, 747)) (f' := (300, [some (.ref 138), none], [.ref 176, .ref 138])) (h' := hb387 L xs) rfl ?_
  refine ev_run (n := 1) (u' := (38, 747)) (f' := (303, [some (.ref 138), none], [])) (h' := hb388 L xs) rfl ?_
  refine ev_run (n := 3) (u' := (39, 759)) (f' := (308, [some (.ref 138), none], [.ref 177, .ref 138])) (h' := hb389 L xs) rfl ?_
  refine ev_run (n := 1) (u' := (39, 759)) (f' := (311, [some (.ref 138), none], [])) (h' := hb390 L xs) rfl ?_
  refine ev_run (n := 3) (u' := (40, 771)) (f' := (316, [some (.ref 138), none], [.ref 178, .ref 138])) (h' := hb391 L xs) rfl ?_
  refine ev_run (n := 1) (u' := (40, 771)) (f' := (319, [some (.ref 138), none], [])) (h' := hb392 L xs) rfl ?_
  refine ev_run (n := 3) (u' := (41, 783)) (f' := (324, [some (.ref 138), none], [.ref 179, .ref 138])) (h' := hb393 L xs) rfl ?_
  refine ev_run (n := 1) (u' := (41, 783)) (f' := (327, [some (.ref 138), none], [])) (h' := hb394 L xs) rfl ?_
  refine ev_run (n := 3) (u' := (42, 795)) (f' := (332, [some (.ref 138), none], [.ref 180, .ref 138])) (h' := hb395 L xs) rfl ?_
  refine ev_run (n := 1) (u' := (42, 795)) (f' := (335, [some (.ref 138), none], [])) (h' := hb396 L xs) rfl ?_
  refine ev_run (n := 3) (u' := (43, 807)) (f' := (340, [some (.ref 138), none], [.ref 181, .ref 138])) (h' := hb397 L xs) rfl ?_
  refine ev_run (n := 1) (u' := (43, 807)) (f' := (343, [some (.ref 138), none], [])) (h' := hb398 L xs) rfl ?_
  refine ev_run (n := 3) (u' := (43, 807)) (f' := (348, [some (.ref 138), none], [])) (h' := hb399 L xs) rfl ?_
  refine ev_run (n := 3) (u' := (44, 8999)) (f' := (354, [some (.ref 138), none], [.ref 182, .ref 138])) (h' := hb400 L xs) rfl ?_
  refine ev_run (n := 1) (u' := (44, 8999)) (f' := (357, [some (.ref 138), none], [])) (h' := hb401 L xs) rfl ?_
  refine ev_run (n := 3) (u' := (45, 17191)) (f' := (363, [some (.ref 138), none], [.ref 183, .ref 138])) (h' := hb402 L xs) rfl ?_
  refine ev_run (n := 1) (u' := (45, 17191)) (f' := (366, [some (.ref 138), none], [])) (h' := hb403 L xs) rfl ?_
  refine ev_run (n := 3) (u' := (46, 25383)) (f' := (372, [some (.ref 138), none], [.ref 184, .ref 138])) (h' := hb404 L xs) rfl ?_
  refine ev_run (n := 1) (u' := (46, 25383)) (f' := (375, [some (.ref 138), none], [])) (h' := hb405 L xs) rfl ?_
  refine ev_run (n := 3) (u' := (47, 33575)) (f' := (381, [some (.ref 138), none], [.ref 185, .ref 138])) (h' := hb406 L xs) rfl ?_
  refine ev_run (n := 1) (u' := (47, 33575)) (f' := (384, [some (.ref 138), none], [])) (h' := hb407 L xs) rfl ?_
  refine ev_run (n := 3) (u' := (48, 33580)) (f' := (388, [some (.ref 138), none], [.ref 186, .ref 138])) (h' := hb408 L xs) rfl ?_
  refine ev_run (n := 1) (u' := (48, 33580)) (f' := (391, [some (.ref 138), none], [])) (h' := hb409 L xs) rfl ?_
  refine ev_run (n := 10) (u' := (48, 33580)) (f' := (405, [some (.ref 138), some (.int 0)], [])) (h' := hb410 L xs) rfl ?_
  refine ev_run (n := 10) (u' := (48, 33580)) (f' := (405, [some (.ref 138), some (.int 1)], [])) (h' := hb411 L xs) rfl ?_
  refine ev_run (n := 10) (u' := (48, 33580)) (f' := (405, [some (.ref 138), some (.int 2)], [])) (h' := hb412 L xs) rfl ?_
  refine ev_run (n := 10) (u' := (48, 33580)) (f' := (405, [some (.ref 138), some (.int 3)], [])) (h' := hb413 L xs) rfl ?_
  refine ev_run (n := 10) (u' := (48, 33580)) (f' := (405, [some (.ref 138), some (.int 4)], [])) (h' := hb414 L xs) rfl ?_
  refine ev_run (n := 15) (u' := (48, 33580)) (f' := (426, [some (.ref 138), some (.int 0)], [])) (h' := hb415 L xs) rfl ?_
  refine ev_run (n := 5) (u' := (48, 33580)) (f' := (433, [some (.ref 138), some (.int 0)], [])) (h' := hb416 L xs) rfl ?_
  refine ev_run (n := 5) (u' := (48, 33580)) (f' := (440, [some (.ref 138), some (.int 0)], [])) (h' := hb417 L xs) rfl ?_
  refine ev_run (n := 10) (u' := (48, 33580)) (f' := (426, [some (.ref 138), some (.int 1)], [])) (h' := hb418 L xs) rfl ?_
  refine ev_run (n := 5) (u' := (48, 33580)) (f' := (433, [some (.ref 138), some (.int 1)], [])) (h' := hb419 L xs) rfl ?_
  refine ev_run (n := 5) (u' := (48, 33580)) (f' := (440, [some (.ref 138), some (.int 1)], [])) (h' := hb420 L xs) rfl ?_
  refine ev_run (n := 10) (u' := (48, 33580)) (f' := (426, [some (.ref 138), some (.int 2)], [])) (h' := hb421 L xs) rfl ?_
  refine ev_run (n := 5) (u' := (48, 33580)) (f' := (433, [some (.ref 138), some (.int 2)], [])) (h' := hb422 L xs) rfl ?_
  refine ev_run (n := 5) (u' := (48, 33580)) (f' := (440, [some (.ref 138), some (.int 2)], [])) (h' := hb423 L xs) rfl ?_
  refine ev_run (n := 10) (u' := (48, 33580)) (f' := (426, [some (.ref 138), some (.int 3)], [])) (h' := hb424 L xs) rfl ?_
  refine ev_run (n := 5) (u' := (48, 33580)) (f' := (433, [some (.ref 138), some (.int 3)], [])) (h' := hb425 L xs) rfl ?_
  refine ev_run (n := 5) (u' := (48, 33580)) (f' := (440, [some (.ref 138), some (.int 3)], [])) (h' := hb426 L xs) rfl ?_
  refine ev_run (n := 10) (u' := (48, 33580)) (f' := (426, [some (.ref 138), some (.int 4)], [])) (h' := hb427 L xs) rfl ?_
  refine ev_run (n := 5) (u' := (48, 33580)) (f' := (433, [some (.ref 138), some (.int 4)], [])) (h' := hb428 L xs) rfl ?_
  refine ev_run (n := 5) (u' := (48, 33580)) (f' := (440, [some (.ref 138), some (.int 4)], [])) (h' := hb429 L xs) rfl ?_
  refine ev_run (n := 10) (u' := (48, 33580)) (f' := (426, [some (.ref 138), some (.int 5)], [])) (h' := hb430 L xs) rfl ?_
  refine ev_run (n := 5) (u' := (48, 33580)) (f' := (433, [some (.ref 138), some (.int 5)], [])) (h' := hb431 L xs) rfl ?_
  refine ev_run (n := 5) (u' := (48, 33580)) (f' := (440, [some (.ref 138), some (.int 5)], [])) (h' := hb432 L xs) rfl ?_
  refine ev_run (n := 10) (u' := (48, 33580)) (f' := (426, [some (.ref 138), some (.int 6)], [])) (h' := hb433 L xs) rfl ?_
  refine ev_run (n := 5) (u' := (48, 33580)) (f' := (433, [some (.ref 138), some (.int 6)], [])) (h' := hb434 L xs) rfl ?_
  refine ev_run (n := 5) (u' := (48, 33580)) (f' := (440, [some (.ref 138), some (.int 6)], [])) (h' := hb435 L xs) rfl ?_
  refine ev_run (n := 10) (u' := (48, 33580)) (f' := (426, [some (.ref 138), some (.int 7)], [])) (h' := hb436 L xs) rfl ?_
  refine ev_run (n := 5) (u' := (48, 33580)) (f' := (433, [some (.ref 138), some (.int 7)], [])) (h' := hb437 L xs) rfl ?_
  refine ev_run (n := 5) (u' := (48, 33580)) (f' := (440, [some (.ref 138), some (.int 7)], [])) (h' := hb438 L xs) rfl ?_
  refine ev_run (n := 10) (u' := (48, 33580)) (f' := (426, [some (.ref 138), some (.int 8)], [])) (h' := hb439 L xs) rfl ?_
  refine ev_run (n := 5) (u' := (48, 33580)) (f' := (433, [some (.ref 138), some (.int 8)], [])) (h' := hb440 L xs) rfl ?_
  refine ev_run (n := 5) (u' := (48, 33580)) (f' := (440, [some (.ref 138), some (.int 8)], [])) (h' := hb441 L xs) rfl ?_
  refine ev_run (n := 10) (u' := (48, 33580)) (f' := (426, [some (.ref 138), some (.int 9)], [])) (h' := hb442 L xs) rfl ?_
  refine ev_run (n := 5) (u' := (48, 33580)) (f' := (433, [some (.ref 138), some (.int 9)], [])) (h' := hb443 L xs) rfl ?_
  refine ev_run (n := 5) (u' := (48, 33580)) (f' := (440, [some (.ref 138), some (.int 9)], [])) (h' := hb444 L xs) rfl ?_
  refine ev_run (n := 10) (u' := (48, 33580)) (f' := (426, [some (.ref 138), some (.int 10)], [])) (h' := hb445 L xs) rfl ?_
  refine ev_run (n := 5) (u' := (48, 33580)) (f' := (433, [some (.ref 138), some (.int 10)], [])) (h' := hb446 L xs) rfl ?_
  refine ev_run (n := 5) (u' := (48, 33580)) (f' := (440, [some (.ref 138), some (.int 10)], [])) (h' := hb447 L xs) rfl ?_
  refine ev_run (n := 10) (u' := (48, 33580)) (f' := (426, [some (.ref 138), some (.int 11)], [])) (h' := hb448 L xs) rfl ?_
  refine ev_run (n := 5) (u' := (48, 33580)) (f' := (433, [some (.ref 138), some (.int 11)], [])) (h' := hb449 L xs) rfl ?_
  refine ev_run (n := 5) (u' := (48, 33580)) (f' := (440, [some (.ref 138), some (.int 11)], [])) (h' := hb450 L xs) rfl ?_
  refine ev_run (n := 10) (u' := (48, 33580)) (f' := (426, [some (.ref 138), some (.int 12)], [])) (h' := hb451 L xs) rfl ?_
  refine ev_run (n := 5) (u' := (48, 33580)) (f' := (433, [some (.ref 138), some (.int 12)], [])) (h' := hb452 L xs) rfl ?_
  refine ev_run (n := 5) (u' := (48, 33580)) (f' := (440, [some (.ref 138), some (.int 12)], [])) (h' := hb453 L xs) rfl ?_
  refine ev_run (n := 10) (u' := (48, 33580)) (f' := (426, [some (.ref 138), some (.int 13)], [])) (h' := hb454 L xs) rfl ?_
  refine ev_run (n := 5) (u' := (48, 33580)) (f' := (433, [some (.ref 138), some (.int 13)], [])) (h' := hb455 L xs) rfl ?_
  refine ev_run (n := 5) (u' := (48, 33580)) (f' := (440, [some (.ref 138), some (.int 13)], [])) (h' := hb456 L xs) rfl ?_
  refine ev_run (n := 10) (u' := (48, 33580)) (f' := (426, [some (.ref 138), some (.int 14)], [])) (h' := hb457 L xs) rfl ?_
  refine ev_run (n := 5) (u' := (48, 33580)) (f' := (433, [some (.ref 138), some (.int 14)], [])) (h' := hb458 L xs) rfl ?_
  refine ev_run (n := 5) (u' := (48, 33580)) (f' := (440, [some (.ref 138), some (.int 14)], [])) (h' := hb459 L xs) rfl ?_
  refine ev_run (n := 10) (u' := (48, 33580)) (f' := (426, [some (.ref 138), some (.int 15)], [])) (h' := hb460 L xs) rfl ?_
  refine ev_run (n := 5) (u' := (48, 33580)) (f' := (433, [some (.ref 138), some (.int 15)], [])) (h' := hb461 L xs) rfl ?_
  refine ev_run (n := 5) (u' := (48, 33580)) (f' := (440, [some (.ref 138), some (.int 15)], [])) (h' := hb462 L xs) rfl ?_
  refine ev_run (n := 10) (u' := (48, 33580)) (f' := (426, [some (.ref 138), some (.int 16)], [])) (h' := hb463 L xs) rfl ?_
  refine ev_run (n := 5) (u' := (48, 33580)) (f' := (433, [some (.ref 138), some (.int 16)], [])) (h' := hb464 L xs) rfl ?_
  refine ev_run (n := 5) (u' := (48, 33580)) (f' := (440, [some (.ref 138), some (.int 16)], [])) (h' := hb465 L xs) rfl ?_
  refine ev_run (n := 10) (u' := (48, 33580)) (f' := (426, [some (.ref 138), some (.int 17)], [])) (h' := hb466 L xs) rfl ?_
  refine ev_run (n := 5) (u' := (48, 33580)) (f' := (433, [some (.ref 138), some (.int 17)], [])) (h' := hb467 L xs) rfl ?_
  refine ev_run (n := 5) (u' := (48, 33580)) (f' := (440, [some (.ref 138), some (.int 17)], [])) (h' := hb468 L xs) rfl ?_
  refine ev_run (n := 10) (u' := (48, 33580)) (f' := (426, [some (.ref 138), some (.int 18)], [])) (h' := hb469 L xs) rfl ?_
  refine ev_run (n := 5) (u' := (48, 33580)) (f' := (433, [some (.ref 138), some (.int 18)], [])) (h' := hb470 L xs) rfl ?_
  refine ev_run (n := 5) (u' := (48, 33580)) (f' := (440, [some (.ref 138), some (.int 18)], [])) (h' := hb471 L xs) rfl ?_
  refine ev_run (n := 10) (u' := (48, 33580)) (f' := (426, [some (.ref 138), some (.int 19)], [])) (h' := hb472 L xs) rfl ?_
  refine ev_run (n := 5) (u' := (48, 33580)) (f' := (433, [some (.ref 138), some (.int 19)], [])) (h' := hb473 L xs) rfl ?_
  refine ev_run (n := 5) (u' := (48, 33580)) (f' := (440, [some (.ref 138), some (.int 19)], [])) (h' := hb474 L xs) rfl ?_
  refine ev_run (n := 15) (u' := (48, 33580)) (f' := (460, [some (.ref 138), some (.int 0)], [])) (h' := hb475 L xs) rfl ?_
  refine ev_run (n := 5) (u' := (48, 33580)) (f' := (469, [some (.ref 138), some (.int 0)], [])) (h' := hb476 L xs) rfl ?_
  refine ev_run (n := 10) (u' := (48, 33580)) (f' := (460, [some (.ref 138), some (.int 1)], [])) (h' := hb477 L xs) rfl ?_
  refine ev_run (n := 5) (u' := (48, 33580)) (f' := (469, [some (.ref 138), some (.int 1)], [])) (h' := hb478 L xs) rfl ?_
  refine ev_run (n := 10) (u' := (48, 33580)) (f' := (460, [some (.ref 138), some (.int 2)], [])) (h' := hb479 L xs) rfl ?_
  refine ev_run (n := 5) (u' := (48, 33580)) (f' := (469, [some (.ref 138), some (.int 2)], [])) (h' := hb480 L xs) rfl ?_
  refine ev_run (n := 10) (u' := (48, 33580)) (f' := (460, [some (.ref 138), some (.int 3)], [])) (h' := hb481 L xs) rfl ?_
  refine ev_run (n := 5) (u' := (48, 33580)) (f' := (469, [some (.ref 138), some (.int 3)], [])) (h' := hb482 L xs) rfl ?_
  refine ev_run (n := 10) (u' := (48, 33580)) (f' := (460, [some (.ref 138), some (.int 4)], [])) (h' := hb483 L xs) rfl ?_
  refine ev_run (n := 5) (u' := (48, 33580)) (f' := (469, [some (.ref 138), some (.int 4)], [])) (h' := hb484 L xs) rfl ?_
  refine ev_run (n := 15) (u' := (48, 33580)) (f' := (490, [some (.ref 138), some (.int 0)], [])) (h' := hb485 L xs) rfl ?_
  refine ev_run (n := 10) (u' := (48, 33580)) (f' := (490, [some (.ref 138), some (.int 1)], [])) (h' := hb486 L xs) rfl ?_
  refine ev_run (n := 10) (u' := (48, 33580)) (f' := (490, [some (.ref 138), some (.int 2)], [])) (h' := hb487 L xs) rfl ?_
  refine ev_run (n := 10) (u' := (48, 33580)) (f' := (490, [some (.ref 138), some (.int 3)], [])) (h' := hb488 L xs) rfl ?_
  refine ev_run (n := 10) (u' := (48, 33580)) (f' := (490, [some (.ref 138), some (.int 4)], [])) (h' := hb489 L xs) rfl ?_
  refine ev_run (n := 10) (u' := (48, 33580)) (f' := (490, [some (.ref 138), some (.int 5)], [])) (h' := hb490 L xs) rfl ?_
  refine ev_run (n := 10) (u' := (48, 33580)) (f' := (490, [some (.ref 138), some (.int 6)], [])) (h' := hb491 L xs) rfl ?_
  refine ev_run (n := 10) (u' := (48, 33580)) (f' := (490, [some (.ref 138), some (.int 7)], [])) (h' := hb492 L xs) rfl ?_
  refine ev_run (n := 10) (u' := (48, 33580)) (f' := (490, [some (.ref 138), some (.int 8)], [])) (h' := hb493 L xs) rfl ?_
  refine ev_run (n := 10) (u' := (48, 33580)) (f' := (490, [some (.ref 138), some (.int 9)], [])) (h' := hb494 L xs) rfl ?_
  refine ev_run (n := 10) (u' := (48, 33580)) (f' := (490, [some (.ref 138), some (.int 10)], [])) (h' := hb495 L xs) rfl ?_
  refine ev_run (n := 10) (u' := (48, 33580)) (f' := (490, [some (.ref 138), some (.int 11)], [])) (h' := hb496 L xs) rfl ?_
  refine ev_run (n := 10) (u' := (48, 33580)) (f' := (490, [some (.ref 138), some (.int 12)], [])) (h' := hb497 L xs) rfl ?_
  refine ev_run (n := 10) (u' := (48, 33580)) (f' := (490, [some (.ref 138), some (.int 13)], [])) (h' := hb498 L xs) rfl ?_
  refine ev_run (n := 10) (u' := (48, 33580)) (f' := (490, [some (.ref 138), some (.int 14)], [])) (h' := hb499 L xs) rfl ?_
  refine ev_run (n := 10) (u' := (48, 33580)) (f' := (490, [some (.ref 138), some (.int 15)], [])) (h' := hb500 L xs) rfl ?_
  refine ev_run (n := 10) (u' := (48, 33580)) (f' := (490, [some (.ref 138), some (.int 16)], [])) (h' := hb501 L xs) rfl ?_
  refine ev_run (n := 10) (u' := (48, 33580)) (f' := (490, [some (.ref 138), some (.int 17)], [])) (h' := hb502 L xs) rfl ?_
  refine ev_run (n := 10) (u' := (48, 33580)) (f' := (490, [some (.ref 138), some (.int 18)], [])) (h' := hb503 L xs) rfl ?_
  refine ev_run (n := 10) (u' := (48, 33580)) (f' := (490, [some (.ref 138), some (.int 19)], [])) (h' := hb504 L xs) rfl ?_
  refine ev_run (n := 10) (u' := (48, 33580)) (f' := (490, [some (.ref 138), some (.int 20)], [])) (h' := hb505 L xs) rfl ?_
  refine ev_run (n := 5) (u' := (48, 33580)) (f' := (496, [none, none], [])) (h' := hb505 L xs) rfl ?_
  exact ev_vret rfl rfl rfl
def hb506 (L : Nat) (xs : Nat → Int32) : aHp := aNew (hb505 L xs) 2 1
def hb507 (L : Nat) (xs : Nat → Int32) : aHp := aNew (hb506 L xs) 3 1
set_option maxHeartbeats 20000000 in
set_option maxRecDepth 100000 in
theorem boot (L : Nat) (xs : Nat → Int32) : GoP 214 (0, 0) (0, aPad [.ref 0] 8, []) (hp0 L xs) ((28, [some (.ref 0), some (.ref 1), some (.ref 138), some (.ref 187), some (.ref 188), some (.int 0), none, none], []), (188, 60535), hb507 L xs) := by
  show GoP 214 (0, 0) (0, [some (.ref 0), none, none, none, none, none, none, none], []) (hb0 L xs) _
  refine go_run (n := 1) (u' := (1, 9)) (f' := (3, [some (.ref 0), none, none, none, none, none, none, none], [.ref 1])) (h' := hb1 L xs) rfl ?_
  refine go_run (n := 1) (u' := (1, 9)) (f' := (4, [some (.ref 0), none, none, none, none, none, none, none], [.ref 1, .ref 1])) (h' := hb1 L xs) rfl ?_
  refine go_call (v := none) (h1 := hb310 L xs) rfl rfl rfl rfl (bt43 L xs) ?_
  show GoP 214 (137, 26895) (7, [some (.ref 0), none, none, none, none, none, none, none], [.ref 1]) (hb310 L xs) _
  refine go_run (n := 2) (u' := (138, 26953)) (f' := (11, [some (.ref 0), some (.ref 1), none, none, none, none, none, none], [.ref 138])) (h' := hb311 L xs) rfl ?_
  refine go_run (n := 1) (u' := (138, 26953)) (f' := (12, [some (.ref 0), some (.ref 1), none, none, none, none, none, none], [.ref 138, .ref 138])) (h' := hb311 L xs) rfl ?_
  refine go_call (v := none) (h1 := hb505 L xs) rfl rfl rfl rfl (bt44 L xs) ?_
  show GoP 214 (186, 60533) (15, [some (.ref 0), some (.ref 1), none, none, none, none, none, none], [.ref 138]) (hb505 L xs) _
  refine go_run (n := 3) (u' := (187, 60534)) (f' := (19, [some (.ref 0), some (.ref 1), some (.ref 138), none, none, none, none, none], [.ref 187])) (h' := hb506 L xs) rfl ?_
  refine go_run (n := 3) (u' := (188, 60535)) (f' := (23, [some (.ref 0), some (.ref 1), some (.ref 138), some (.ref 187), none, none, none, none], [.ref 188])) (h' := hb507 L xs) rfl ?_
  refine go_run (n := 3) (u' := (188, 60535)) (f' := (28, [some (.ref 0), some (.ref 1), some (.ref 138), some (.ref 187), some (.ref 188), some (.int 0), none, none], [])) (h' := hb507 L xs) rfl ?_
  exact go_nil
