/-! THE LAW'S CASES -/
theorem npI_cg {I I' : tI} (h : npI [(186, 5, 0, 999)] I) (e : I' 186 5 = I 186 5) : npI [(186, 5, 0, 999)] I' := fun q hq => by
  rw [List.mem_singleton] at hq
  subst hq
  dsimp only
  rw [e]
  exact h _ List.mem_cons_self
/-- the trays are alike, but for their numbers -/
def R7 (I : tI) (J : tJ) : Prop := TY False I I J J
theorem R7_ag {ml : nMl} {B B' : xM} {I I' : tI} {J J' : tJ} (hA : kAg ml B I J B' I' J') (n1 : ∀ i, nmod ml 6 i = false ∧ nmod ml 7 i = false ∧ nmod ml 188 i = false ∧ nmod ml 189 i = false) (h : R7 I J) : R7 I' J' :=
  TY_cg h (fun t ht => ⟨(hA.1 6 t (n1 t).1).1, (hA.1 7 t (n1 t).2.1).1, (hA.1 188 t (n1 t).2.2.1).1, (hA.1 189 t (n1 t).2.2.2).1⟩) (fun z => z.elim)
theorem R7_mid {ml : nMl} {B B' : xM} {I I' : tI} {J J' : tJ} (hA : kAg ml B I J B' I' J') (n1 : ∀ i, nmod ml 188 i = false ∧ nmod ml 189 i = false) (h : R7 I J) : TY False I I' J J' :=
  TY_cg h (fun t ht => ⟨rfl, rfl, (hA.1 188 t (n1 t).1).1, (hA.1 189 t (n1 t).2).1⟩) (fun z => z.elim)
def trB : Bool := (List.range 4).all (fun t => ((decide (ktK 6 = some (20, 4)) && decide (ktK 7 = some (20, 4))) && (decide (ktK 188 = some (20, 4)) && decide (ktK 189 = some (20, 4)))) && ((decide ((ktB 6 t).1 = 0) && decide ((ktB 7 t).1 = 0)) && (decide ((ktB 188 t).1 = 0) && decide ((ktB 189 t).1 = 0))))
set_option maxRecDepth 100000 in
theorem trB_ok : trB = true := by decide +kernel
theorem trB_at {t : Nat} (ht : t < 4) : slI 6 t ∧ slI 7 t ∧ slI 188 t ∧ slI 189 t := by
  have h := List.all_eq_true.mp trB_ok t (List.mem_range.mpr ht)
  simp only [Bool.and_eq_true, decide_eq_true_eq] at h
  obtain ⟨⟨⟨k1, k2⟩, k3, k4⟩, ⟨b1, b2⟩, b3, b4⟩ := h
  exact ⟨⟨_, _, k1, ht, b1⟩, ⟨_, _, k2, ht, b2⟩, ⟨_, _, k3, ht, b3⟩, ⟨_, _, k4, ht, b4⟩⟩
theorem R7_end {ml : nMl} {B B' : xM} {I1 I2 K1 K2 : tI} {J1 J2 L1 L2 : tJ} (hA : kAg ml B I1 J1 B' I2 J2) (hs1 : slq K1 I1 L1 J1) (hs2 : slq K2 I2 L2 J2) (n1 : ∀ i, nmod ml 6 i = false ∧ nmod ml 7 i = false) (h : TY False K1 K2 L1 L2) : R7 I2 J2 :=
  TY_cg h (fun t ht => ⟨(hA.1 6 t (n1 t).1).1.trans (hs1.1 6 t (trB_at ht).1), (hA.1 7 t (n1 t).2).1.trans (hs1.1 7 t (trB_at ht).2.1), hs2.1 188 t (trB_at ht).2.2.1, hs2.1 189 t (trB_at ht).2.2.2⟩) (fun z => z.elim)
theorem xl288 : xat rLawX.1 288 = some (.aload_n 1, 0, 0, 0) := by decide +kernel
theorem xl289 : xat rLawX.1 289 = some (.invokevirtual 13, 118, 1, 11) := by decide +kernel
theorem xl292 : xat rLawX.1 292 = some (.pop, 0, 0, 0) := by decide +kernel
theorem xl293 : xat rLawX.1 293 = some (.aload_n 2, 0, 0, 0) := by decide +kernel
theorem xl294 : xat rLawX.1 294 = some (.invokevirtual 17, 201, 1, 12) := by decide +kernel
theorem xl297 : xat rLawX.1 297 = some (.pop, 0, 0, 0) := by decide +kernel
theorem xl298 : xat rLawX.1 298 = some (.goto 1916, 2214, 0, 0) := by decide +kernel
theorem xl301 : xat rLawX.1 301 = some (.aload_n 1, 0, 0, 0) := by decide +kernel
theorem xl302 : xat rLawX.1 302 = some (.invokevirtual 18, 119, 1, 11) := by decide +kernel
theorem xl305 : xat rLawX.1 305 = some (.pop2, 0, 0, 0) := by decide +kernel
theorem xl306 : xat rLawX.1 306 = some (.aload_n 2, 0, 0, 0) := by decide +kernel
theorem xl307 : xat rLawX.1 307 = some (.invokevirtual 22, 202, 1, 12) := by decide +kernel
theorem xl310 : xat rLawX.1 310 = some (.pop2, 0, 0, 0) := by decide +kernel
theorem xl311 : xat rLawX.1 311 = some (.goto 1903, 2214, 0, 0) := by decide +kernel
theorem xl314 : xat rLawX.1 314 = some (.aload_n 1, 0, 0, 0) := by decide +kernel
theorem xl315 : xat rLawX.1 315 = some (.invokevirtual 23, 120, 1, 11) := by decide +kernel
theorem xl318 : xat rLawX.1 318 = some (.pop2, 0, 0, 0) := by decide +kernel
theorem xl319 : xat rLawX.1 319 = some (.aload_n 2, 0, 0, 0) := by decide +kernel
theorem xl320 : xat rLawX.1 320 = some (.invokevirtual 26, 203, 1, 12) := by decide +kernel
theorem xl323 : xat rLawX.1 323 = some (.pop2, 0, 0, 0) := by decide +kernel
theorem xl324 : xat rLawX.1 324 = some (.goto 1890, 2214, 0, 0) := by decide +kernel
theorem xl327 : xat rLawX.1 327 = some (.aload_n 1, 0, 0, 0) := by decide +kernel
theorem xl328 : xat rLawX.1 328 = some (.aload_n 0, 0, 0, 0) := by decide +kernel
theorem xl329 : xat rLawX.1 329 = some (.iload_n 3, 0, 0, 0) := by decide +kernel
theorem xl330 : xat rLawX.1 330 = some (.iconst 1, 0, 0, 0) := by decide +kernel
theorem xl331 : xat rLawX.1 331 = some (.iadd, 0, 0, 0) := by decide +kernel
theorem xl332 : xat rLawX.1 332 = some (.iaload, 0, 0, 0) := by decide +kernel
theorem xl333 : xat rLawX.1 333 = some (.aload_n 0, 0, 0, 0) := by decide +kernel
theorem xl334 : xat rLawX.1 334 = some (.iload_n 3, 0, 0, 0) := by decide +kernel
theorem xl335 : xat rLawX.1 335 = some (.iconst 2, 0, 0, 0) := by decide +kernel
theorem xl336 : xat rLawX.1 336 = some (.iadd, 0, 0, 0) := by decide +kernel
theorem xl337 : xat rLawX.1 337 = some (.iaload, 0, 0, 0) := by decide +kernel
theorem xl338 : xat rLawX.1 338 = some (.aload_n 0, 0, 0, 0) := by decide +kernel
theorem xl339 : xat rLawX.1 339 = some (.iload_n 3, 0, 0, 0) := by decide +kernel
theorem xl340 : xat rLawX.1 340 = some (.iconst 3, 0, 0, 0) := by decide +kernel
theorem xl341 : xat rLawX.1 341 = some (.iadd, 0, 0, 0) := by decide +kernel
theorem xl342 : xat rLawX.1 342 = some (.iaload, 0, 0, 0) := by decide +kernel
theorem xl343 : xat rLawX.1 343 = some (.invokevirtual 27, 134, 4, 11) := by decide +kernel
theorem xl346 : xat rLawX.1 346 = some (.pop, 0, 0, 0) := by decide +kernel
theorem xl347 : xat rLawX.1 347 = some (.aload_n 2, 0, 0, 0) := by decide +kernel
theorem xl348 : xat rLawX.1 348 = some (.aload_n 0, 0, 0, 0) := by decide +kernel
theorem xl349 : xat rLawX.1 349 = some (.iload_n 3, 0, 0, 0) := by decide +kernel
theorem xl350 : xat rLawX.1 350 = some (.iconst 1, 0, 0, 0) := by decide +kernel
theorem xl351 : xat rLawX.1 351 = some (.iadd, 0, 0, 0) := by decide +kernel
theorem xl352 : xat rLawX.1 352 = some (.iaload, 0, 0, 0) := by decide +kernel
theorem xl353 : xat rLawX.1 353 = some (.aload_n 0, 0, 0, 0) := by decide +kernel
theorem xl354 : xat rLawX.1 354 = some (.iload_n 3, 0, 0, 0) := by decide +kernel
theorem xl355 : xat rLawX.1 355 = some (.iconst 2, 0, 0, 0) := by decide +kernel
theorem xl356 : xat rLawX.1 356 = some (.iadd, 0, 0, 0) := by decide +kernel
theorem xl357 : xat rLawX.1 357 = some (.iaload, 0, 0, 0) := by decide +kernel
theorem xl358 : xat rLawX.1 358 = some (.aload_n 0, 0, 0, 0) := by decide +kernel
theorem xl359 : xat rLawX.1 359 = some (.iload_n 3, 0, 0, 0) := by decide +kernel
theorem xl360 : xat rLawX.1 360 = some (.iconst 3, 0, 0, 0) := by decide +kernel
theorem xl361 : xat rLawX.1 361 = some (.iadd, 0, 0, 0) := by decide +kernel
theorem xl362 : xat rLawX.1 362 = some (.iaload, 0, 0, 0) := by decide +kernel
theorem xl363 : xat rLawX.1 363 = some (.invokevirtual 31, 211, 4, 12) := by decide +kernel
theorem xl366 : xat rLawX.1 366 = some (.pop, 0, 0, 0) := by decide +kernel
theorem xl367 : xat rLawX.1 367 = some (.goto 1847, 2214, 0, 0) := by decide +kernel
theorem xl370 : xat rLawX.1 370 = some (.aload_n 1, 0, 0, 0) := by decide +kernel
theorem xl371 : xat rLawX.1 371 = some (.aload_n 0, 0, 0, 0) := by decide +kernel
theorem xl372 : xat rLawX.1 372 = some (.iload_n 3, 0, 0, 0) := by decide +kernel
theorem xl373 : xat rLawX.1 373 = some (.iconst 1, 0, 0, 0) := by decide +kernel
theorem xl374 : xat rLawX.1 374 = some (.iadd, 0, 0, 0) := by decide +kernel
theorem xl375 : xat rLawX.1 375 = some (.iaload, 0, 0, 0) := by decide +kernel
theorem xl376 : xat rLawX.1 376 = some (.aload_n 0, 0, 0, 0) := by decide +kernel
theorem xl377 : xat rLawX.1 377 = some (.iload_n 3, 0, 0, 0) := by decide +kernel
theorem xl378 : xat rLawX.1 378 = some (.iconst 2, 0, 0, 0) := by decide +kernel
theorem xl379 : xat rLawX.1 379 = some (.iadd, 0, 0, 0) := by decide +kernel
theorem xl380 : xat rLawX.1 380 = some (.iaload, 0, 0, 0) := by decide +kernel
theorem xl381 : xat rLawX.1 381 = some (.aload_n 0, 0, 0, 0) := by decide +kernel
theorem xl382 : xat rLawX.1 382 = some (.iload_n 3, 0, 0, 0) := by decide +kernel
theorem xl383 : xat rLawX.1 383 = some (.iconst 3, 0, 0, 0) := by decide +kernel
theorem xl384 : xat rLawX.1 384 = some (.iadd, 0, 0, 0) := by decide +kernel
theorem xl385 : xat rLawX.1 385 = some (.iaload, 0, 0, 0) := by decide +kernel
theorem xl386 : xat rLawX.1 386 = some (.i2l, 0, 0, 0) := by decide +kernel
theorem xl387 : xat rLawX.1 387 = some (.bipush 32, 0, 0, 0) := by decide +kernel
theorem xl389 : xat rLawX.1 389 = some (.lshl, 0, 0, 0) := by decide +kernel
theorem xl390 : xat rLawX.1 390 = some (.aload_n 0, 0, 0, 0) := by decide +kernel
theorem xl391 : xat rLawX.1 391 = some (.iload_n 3, 0, 0, 0) := by decide +kernel
theorem xl392 : xat rLawX.1 392 = some (.iconst 4, 0, 0, 0) := by decide +kernel
theorem xl393 : xat rLawX.1 393 = some (.iadd, 0, 0, 0) := by decide +kernel
theorem xl394 : xat rLawX.1 394 = some (.iaload, 0, 0, 0) := by decide +kernel
theorem xl395 : xat rLawX.1 395 = some (.i2l, 0, 0, 0) := by decide +kernel
theorem xl396 : xat rLawX.1 396 = some (.ldc2_w 32, 0, 0, 4294967295) := by decide +kernel
theorem xl399 : xat rLawX.1 399 = some (.land, 0, 0, 0) := by decide +kernel
theorem xl400 : xat rLawX.1 400 = some (.lor, 0, 0, 0) := by decide +kernel
theorem xl401 : xat rLawX.1 401 = some (.invokevirtual 34, 135, 4, 11) := by decide +kernel
theorem xl404 : xat rLawX.1 404 = some (.pop, 0, 0, 0) := by decide +kernel
theorem xl405 : xat rLawX.1 405 = some (.aload_n 2, 0, 0, 0) := by decide +kernel
theorem xl406 : xat rLawX.1 406 = some (.aload_n 0, 0, 0, 0) := by decide +kernel
theorem xl407 : xat rLawX.1 407 = some (.iload_n 3, 0, 0, 0) := by decide +kernel
theorem xl408 : xat rLawX.1 408 = some (.iconst 1, 0, 0, 0) := by decide +kernel
theorem xl409 : xat rLawX.1 409 = some (.iadd, 0, 0, 0) := by decide +kernel
theorem xl410 : xat rLawX.1 410 = some (.iaload, 0, 0, 0) := by decide +kernel
theorem xl411 : xat rLawX.1 411 = some (.aload_n 0, 0, 0, 0) := by decide +kernel
theorem xl412 : xat rLawX.1 412 = some (.iload_n 3, 0, 0, 0) := by decide +kernel
theorem xl413 : xat rLawX.1 413 = some (.iconst 2, 0, 0, 0) := by decide +kernel
theorem xl414 : xat rLawX.1 414 = some (.iadd, 0, 0, 0) := by decide +kernel
theorem xl415 : xat rLawX.1 415 = some (.iaload, 0, 0, 0) := by decide +kernel
theorem xl416 : xat rLawX.1 416 = some (.aload_n 0, 0, 0, 0) := by decide +kernel
theorem xl417 : xat rLawX.1 417 = some (.iload_n 3, 0, 0, 0) := by decide +kernel
theorem xl418 : xat rLawX.1 418 = some (.iconst 3, 0, 0, 0) := by decide +kernel
theorem xl419 : xat rLawX.1 419 = some (.iadd, 0, 0, 0) := by decide +kernel
theorem xl420 : xat rLawX.1 420 = some (.iaload, 0, 0, 0) := by decide +kernel
theorem xl421 : xat rLawX.1 421 = some (.i2l, 0, 0, 0) := by decide +kernel
theorem xl422 : xat rLawX.1 422 = some (.bipush 32, 0, 0, 0) := by decide +kernel
theorem xl424 : xat rLawX.1 424 = some (.lshl, 0, 0, 0) := by decide +kernel
theorem xl425 : xat rLawX.1 425 = some (.aload_n 0, 0, 0, 0) := by decide +kernel
theorem xl426 : xat rLawX.1 426 = some (.iload_n 3, 0, 0, 0) := by decide +kernel
theorem xl427 : xat rLawX.1 427 = some (.iconst 4, 0, 0, 0) := by decide +kernel
theorem xl428 : xat rLawX.1 428 = some (.iadd, 0, 0, 0) := by decide +kernel
theorem xl429 : xat rLawX.1 429 = some (.iaload, 0, 0, 0) := by decide +kernel
theorem xl430 : xat rLawX.1 430 = some (.i2l, 0, 0, 0) := by decide +kernel
theorem xl431 : xat rLawX.1 431 = some (.ldc2_w 32, 0, 0, 4294967295) := by decide +kernel
theorem xl434 : xat rLawX.1 434 = some (.land, 0, 0, 0) := by decide +kernel
theorem xl435 : xat rLawX.1 435 = some (.lor, 0, 0, 0) := by decide +kernel
theorem xl436 : xat rLawX.1 436 = some (.invokevirtual 38, 213, 4, 12) := by decide +kernel
theorem xl439 : xat rLawX.1 439 = some (.pop, 0, 0, 0) := by decide +kernel
theorem xl440 : xat rLawX.1 440 = some (.goto 1774, 2214, 0, 0) := by decide +kernel
theorem xl443 : xat rLawX.1 443 = some (.aload_n 1, 0, 0, 0) := by decide +kernel
theorem xl444 : xat rLawX.1 444 = some (.aload_n 0, 0, 0, 0) := by decide +kernel
theorem xl445 : xat rLawX.1 445 = some (.iload_n 3, 0, 0, 0) := by decide +kernel
theorem xl446 : xat rLawX.1 446 = some (.iconst 1, 0, 0, 0) := by decide +kernel
theorem xl447 : xat rLawX.1 447 = some (.iadd, 0, 0, 0) := by decide +kernel
theorem xl448 : xat rLawX.1 448 = some (.iaload, 0, 0, 0) := by decide +kernel
theorem xl449 : xat rLawX.1 449 = some (.aload_n 0, 0, 0, 0) := by decide +kernel
theorem xl450 : xat rLawX.1 450 = some (.iload_n 3, 0, 0, 0) := by decide +kernel
theorem xl451 : xat rLawX.1 451 = some (.iconst 2, 0, 0, 0) := by decide +kernel
theorem xl452 : xat rLawX.1 452 = some (.iadd, 0, 0, 0) := by decide +kernel
theorem xl453 : xat rLawX.1 453 = some (.iaload, 0, 0, 0) := by decide +kernel
theorem xl454 : xat rLawX.1 454 = some (.invokevirtual 39, 136, 3, 11) := by decide +kernel
theorem xl457 : xat rLawX.1 457 = some (.pop2, 0, 0, 0) := by decide +kernel
theorem xl458 : xat rLawX.1 458 = some (.aload_n 2, 0, 0, 0) := by decide +kernel
theorem xl459 : xat rLawX.1 459 = some (.aload_n 0, 0, 0, 0) := by decide +kernel
theorem xl460 : xat rLawX.1 460 = some (.iload_n 3, 0, 0, 0) := by decide +kernel
theorem xl461 : xat rLawX.1 461 = some (.iconst 1, 0, 0, 0) := by decide +kernel
theorem xl462 : xat rLawX.1 462 = some (.iadd, 0, 0, 0) := by decide +kernel
theorem xl463 : xat rLawX.1 463 = some (.iaload, 0, 0, 0) := by decide +kernel
theorem xl464 : xat rLawX.1 464 = some (.aload_n 0, 0, 0, 0) := by decide +kernel
theorem xl465 : xat rLawX.1 465 = some (.iload_n 3, 0, 0, 0) := by decide +kernel
theorem xl466 : xat rLawX.1 466 = some (.iconst 2, 0, 0, 0) := by decide +kernel
theorem xl467 : xat rLawX.1 467 = some (.iadd, 0, 0, 0) := by decide +kernel
theorem xl468 : xat rLawX.1 468 = some (.iaload, 0, 0, 0) := by decide +kernel
theorem xl469 : xat rLawX.1 469 = some (.invokevirtual 43, 214, 3, 12) := by decide +kernel
theorem xl472 : xat rLawX.1 472 = some (.pop2, 0, 0, 0) := by decide +kernel
theorem xl473 : xat rLawX.1 473 = some (.goto 1741, 2214, 0, 0) := by decide +kernel
theorem xl476 : xat rLawX.1 476 = some (.aload_n 1, 0, 0, 0) := by decide +kernel
theorem xl477 : xat rLawX.1 477 = some (.aload_n 0, 0, 0, 0) := by decide +kernel
theorem xl478 : xat rLawX.1 478 = some (.iload_n 3, 0, 0, 0) := by decide +kernel
theorem xl479 : xat rLawX.1 479 = some (.iconst 1, 0, 0, 0) := by decide +kernel
theorem xl480 : xat rLawX.1 480 = some (.iadd, 0, 0, 0) := by decide +kernel
theorem xl481 : xat rLawX.1 481 = some (.iaload, 0, 0, 0) := by decide +kernel
theorem xl482 : xat rLawX.1 482 = some (.aload_n 0, 0, 0, 0) := by decide +kernel
theorem xl483 : xat rLawX.1 483 = some (.iload_n 3, 0, 0, 0) := by decide +kernel
theorem xl484 : xat rLawX.1 484 = some (.iconst 2, 0, 0, 0) := by decide +kernel
theorem xl485 : xat rLawX.1 485 = some (.iadd, 0, 0, 0) := by decide +kernel
theorem xl486 : xat rLawX.1 486 = some (.iaload, 0, 0, 0) := by decide +kernel
theorem xl487 : xat rLawX.1 487 = some (.aload_n 0, 0, 0, 0) := by decide +kernel
theorem xl488 : xat rLawX.1 488 = some (.iload_n 3, 0, 0, 0) := by decide +kernel
theorem xl489 : xat rLawX.1 489 = some (.iconst 3, 0, 0, 0) := by decide +kernel
theorem xl490 : xat rLawX.1 490 = some (.iadd, 0, 0, 0) := by decide +kernel
theorem xl491 : xat rLawX.1 491 = some (.iaload, 0, 0, 0) := by decide +kernel
theorem xl492 : xat rLawX.1 492 = some (.aload_n 0, 0, 0, 0) := by decide +kernel
theorem xl493 : xat rLawX.1 493 = some (.iload_n 3, 0, 0, 0) := by decide +kernel
theorem xl494 : xat rLawX.1 494 = some (.iconst 4, 0, 0, 0) := by decide +kernel
theorem xl495 : xat rLawX.1 495 = some (.iadd, 0, 0, 0) := by decide +kernel
theorem xl496 : xat rLawX.1 496 = some (.iaload, 0, 0, 0) := by decide +kernel
theorem xl497 : xat rLawX.1 497 = some (.aload_n 0, 0, 0, 0) := by decide +kernel
theorem xl498 : xat rLawX.1 498 = some (.iload_n 3, 0, 0, 0) := by decide +kernel
theorem xl499 : xat rLawX.1 499 = some (.iconst 5, 0, 0, 0) := by decide +kernel
theorem xl500 : xat rLawX.1 500 = some (.iadd, 0, 0, 0) := by decide +kernel
theorem xl501 : xat rLawX.1 501 = some (.iaload, 0, 0, 0) := by decide +kernel
theorem xl502 : xat rLawX.1 502 = some (.invokevirtual 44, 137, 6, 11) := by decide +kernel
theorem xl505 : xat rLawX.1 505 = some (.aload_n 2, 0, 0, 0) := by decide +kernel
theorem xl506 : xat rLawX.1 506 = some (.aload_n 0, 0, 0, 0) := by decide +kernel
theorem xl507 : xat rLawX.1 507 = some (.iload_n 3, 0, 0, 0) := by decide +kernel
theorem xl508 : xat rLawX.1 508 = some (.iconst 1, 0, 0, 0) := by decide +kernel
theorem xl509 : xat rLawX.1 509 = some (.iadd, 0, 0, 0) := by decide +kernel
theorem xl510 : xat rLawX.1 510 = some (.iaload, 0, 0, 0) := by decide +kernel
theorem xl511 : xat rLawX.1 511 = some (.aload_n 0, 0, 0, 0) := by decide +kernel
theorem xl512 : xat rLawX.1 512 = some (.iload_n 3, 0, 0, 0) := by decide +kernel
theorem xl513 : xat rLawX.1 513 = some (.iconst 2, 0, 0, 0) := by decide +kernel
theorem xl514 : xat rLawX.1 514 = some (.iadd, 0, 0, 0) := by decide +kernel
theorem xl515 : xat rLawX.1 515 = some (.iaload, 0, 0, 0) := by decide +kernel
theorem xl516 : xat rLawX.1 516 = some (.aload_n 0, 0, 0, 0) := by decide +kernel
theorem xl517 : xat rLawX.1 517 = some (.iload_n 3, 0, 0, 0) := by decide +kernel
theorem xl518 : xat rLawX.1 518 = some (.iconst 3, 0, 0, 0) := by decide +kernel
theorem xl519 : xat rLawX.1 519 = some (.iadd, 0, 0, 0) := by decide +kernel
theorem xl520 : xat rLawX.1 520 = some (.iaload, 0, 0, 0) := by decide +kernel
theorem xl521 : xat rLawX.1 521 = some (.aload_n 0, 0, 0, 0) := by decide +kernel
theorem xl522 : xat rLawX.1 522 = some (.iload_n 3, 0, 0, 0) := by decide +kernel
theorem xl523 : xat rLawX.1 523 = some (.iconst 4, 0, 0, 0) := by decide +kernel
theorem xl524 : xat rLawX.1 524 = some (.iadd, 0, 0, 0) := by decide +kernel
theorem xl525 : xat rLawX.1 525 = some (.iaload, 0, 0, 0) := by decide +kernel
theorem xl526 : xat rLawX.1 526 = some (.aload_n 0, 0, 0, 0) := by decide +kernel
theorem xl527 : xat rLawX.1 527 = some (.iload_n 3, 0, 0, 0) := by decide +kernel
theorem xl528 : xat rLawX.1 528 = some (.iconst 5, 0, 0, 0) := by decide +kernel
theorem xl529 : xat rLawX.1 529 = some (.iadd, 0, 0, 0) := by decide +kernel
theorem xl530 : xat rLawX.1 530 = some (.iaload, 0, 0, 0) := by decide +kernel
theorem xl531 : xat rLawX.1 531 = some (.invokevirtual 48, 215, 6, 12) := by decide +kernel
theorem xl534 : xat rLawX.1 534 = some (.if_icmp .eq 1680, 2214, 0, 0) := by decide +kernel
theorem xl539 : xat rLawX.1 539 = some (.aload_n 1, 0, 0, 0) := by decide +kernel
theorem xl540 : xat rLawX.1 540 = some (.aload_n 0, 0, 0, 0) := by decide +kernel
theorem xl541 : xat rLawX.1 541 = some (.iload_n 3, 0, 0, 0) := by decide +kernel
theorem xl542 : xat rLawX.1 542 = some (.iconst 1, 0, 0, 0) := by decide +kernel
theorem xl543 : xat rLawX.1 543 = some (.iadd, 0, 0, 0) := by decide +kernel
theorem xl544 : xat rLawX.1 544 = some (.iaload, 0, 0, 0) := by decide +kernel
theorem xl545 : xat rLawX.1 545 = some (.aload_n 0, 0, 0, 0) := by decide +kernel
theorem xl546 : xat rLawX.1 546 = some (.iload_n 3, 0, 0, 0) := by decide +kernel
theorem xl547 : xat rLawX.1 547 = some (.iconst 2, 0, 0, 0) := by decide +kernel
theorem xl548 : xat rLawX.1 548 = some (.iadd, 0, 0, 0) := by decide +kernel
theorem xl549 : xat rLawX.1 549 = some (.iaload, 0, 0, 0) := by decide +kernel
theorem xl550 : xat rLawX.1 550 = some (.aload_n 0, 0, 0, 0) := by decide +kernel
theorem xl551 : xat rLawX.1 551 = some (.iload_n 3, 0, 0, 0) := by decide +kernel
theorem xl552 : xat rLawX.1 552 = some (.iconst 3, 0, 0, 0) := by decide +kernel
theorem xl553 : xat rLawX.1 553 = some (.iadd, 0, 0, 0) := by decide +kernel
theorem xl554 : xat rLawX.1 554 = some (.iaload, 0, 0, 0) := by decide +kernel
theorem xl555 : xat rLawX.1 555 = some (.aload_n 0, 0, 0, 0) := by decide +kernel
theorem xl556 : xat rLawX.1 556 = some (.iload_n 3, 0, 0, 0) := by decide +kernel
theorem xl557 : xat rLawX.1 557 = some (.iconst 4, 0, 0, 0) := by decide +kernel
theorem xl558 : xat rLawX.1 558 = some (.iadd, 0, 0, 0) := by decide +kernel
theorem xl559 : xat rLawX.1 559 = some (.iaload, 0, 0, 0) := by decide +kernel
theorem xl560 : xat rLawX.1 560 = some (.aload_n 0, 0, 0, 0) := by decide +kernel
theorem xl561 : xat rLawX.1 561 = some (.iload_n 3, 0, 0, 0) := by decide +kernel
theorem xl562 : xat rLawX.1 562 = some (.iconst 5, 0, 0, 0) := by decide +kernel
theorem xl563 : xat rLawX.1 563 = some (.iadd, 0, 0, 0) := by decide +kernel
theorem xl564 : xat rLawX.1 564 = some (.iaload, 0, 0, 0) := by decide +kernel
theorem xl565 : xat rLawX.1 565 = some (.invokevirtual 49, 141, 6, 11) := by decide +kernel
theorem xl568 : xat rLawX.1 568 = some (.pop, 0, 0, 0) := by decide +kernel
theorem xl569 : xat rLawX.1 569 = some (.aload_n 2, 0, 0, 0) := by decide +kernel
theorem xl570 : xat rLawX.1 570 = some (.aload_n 0, 0, 0, 0) := by decide +kernel
theorem xl571 : xat rLawX.1 571 = some (.iload_n 3, 0, 0, 0) := by decide +kernel
theorem xl572 : xat rLawX.1 572 = some (.iconst 1, 0, 0, 0) := by decide +kernel
theorem xl573 : xat rLawX.1 573 = some (.iadd, 0, 0, 0) := by decide +kernel
theorem xl574 : xat rLawX.1 574 = some (.iaload, 0, 0, 0) := by decide +kernel
theorem xl575 : xat rLawX.1 575 = some (.aload_n 0, 0, 0, 0) := by decide +kernel
theorem xl576 : xat rLawX.1 576 = some (.iload_n 3, 0, 0, 0) := by decide +kernel
theorem xl577 : xat rLawX.1 577 = some (.iconst 2, 0, 0, 0) := by decide +kernel
theorem xl578 : xat rLawX.1 578 = some (.iadd, 0, 0, 0) := by decide +kernel
theorem xl579 : xat rLawX.1 579 = some (.iaload, 0, 0, 0) := by decide +kernel
theorem xl580 : xat rLawX.1 580 = some (.aload_n 0, 0, 0, 0) := by decide +kernel
theorem xl581 : xat rLawX.1 581 = some (.iload_n 3, 0, 0, 0) := by decide +kernel
theorem xl582 : xat rLawX.1 582 = some (.iconst 3, 0, 0, 0) := by decide +kernel
theorem xl583 : xat rLawX.1 583 = some (.iadd, 0, 0, 0) := by decide +kernel
theorem xl584 : xat rLawX.1 584 = some (.iaload, 0, 0, 0) := by decide +kernel
theorem xl585 : xat rLawX.1 585 = some (.aload_n 0, 0, 0, 0) := by decide +kernel
theorem xl586 : xat rLawX.1 586 = some (.iload_n 3, 0, 0, 0) := by decide +kernel
theorem xl587 : xat rLawX.1 587 = some (.iconst 4, 0, 0, 0) := by decide +kernel
theorem xl588 : xat rLawX.1 588 = some (.iadd, 0, 0, 0) := by decide +kernel
theorem xl589 : xat rLawX.1 589 = some (.iaload, 0, 0, 0) := by decide +kernel
theorem xl590 : xat rLawX.1 590 = some (.aload_n 0, 0, 0, 0) := by decide +kernel
theorem xl591 : xat rLawX.1 591 = some (.iload_n 3, 0, 0, 0) := by decide +kernel
theorem xl592 : xat rLawX.1 592 = some (.iconst 5, 0, 0, 0) := by decide +kernel
theorem xl593 : xat rLawX.1 593 = some (.iadd, 0, 0, 0) := by decide +kernel
theorem xl594 : xat rLawX.1 594 = some (.iaload, 0, 0, 0) := by decide +kernel
theorem xl595 : xat rLawX.1 595 = some (.invokevirtual 53, 217, 6, 12) := by decide +kernel
theorem xl598 : xat rLawX.1 598 = some (.pop, 0, 0, 0) := by decide +kernel
theorem xl599 : xat rLawX.1 599 = some (.goto 1615, 2214, 0, 0) := by decide +kernel
theorem xl602 : xat rLawX.1 602 = some (.aload_n 1, 0, 0, 0) := by decide +kernel
theorem xl603 : xat rLawX.1 603 = some (.aload_n 0, 0, 0, 0) := by decide +kernel
theorem xl604 : xat rLawX.1 604 = some (.iload_n 3, 0, 0, 0) := by decide +kernel
theorem xl605 : xat rLawX.1 605 = some (.iconst 1, 0, 0, 0) := by decide +kernel
theorem xl606 : xat rLawX.1 606 = some (.iadd, 0, 0, 0) := by decide +kernel
theorem xl607 : xat rLawX.1 607 = some (.iaload, 0, 0, 0) := by decide +kernel
theorem xl608 : xat rLawX.1 608 = some (.invokevirtual 54, 143, 2, 11) := by decide +kernel
theorem xl611 : xat rLawX.1 611 = some (.pop, 0, 0, 0) := by decide +kernel
theorem xl612 : xat rLawX.1 612 = some (.aload_n 2, 0, 0, 0) := by decide +kernel
theorem xl613 : xat rLawX.1 613 = some (.aload_n 0, 0, 0, 0) := by decide +kernel
theorem xl614 : xat rLawX.1 614 = some (.iload_n 3, 0, 0, 0) := by decide +kernel
theorem xl615 : xat rLawX.1 615 = some (.iconst 1, 0, 0, 0) := by decide +kernel
theorem xl616 : xat rLawX.1 616 = some (.iadd, 0, 0, 0) := by decide +kernel
theorem xl617 : xat rLawX.1 617 = some (.iaload, 0, 0, 0) := by decide +kernel
theorem xl618 : xat rLawX.1 618 = some (.invokevirtual 58, 244, 2, 12) := by decide +kernel
theorem xl621 : xat rLawX.1 621 = some (.pop, 0, 0, 0) := by decide +kernel
theorem xl622 : xat rLawX.1 622 = some (.goto 1592, 2214, 0, 0) := by decide +kernel
theorem xl625 : xat rLawX.1 625 = some (.aload_n 1, 0, 0, 0) := by decide +kernel
theorem xl626 : xat rLawX.1 626 = some (.aload_n 0, 0, 0, 0) := by decide +kernel
theorem xl627 : xat rLawX.1 627 = some (.iload_n 3, 0, 0, 0) := by decide +kernel
theorem xl628 : xat rLawX.1 628 = some (.iconst 1, 0, 0, 0) := by decide +kernel
theorem xl629 : xat rLawX.1 629 = some (.iadd, 0, 0, 0) := by decide +kernel
theorem xl630 : xat rLawX.1 630 = some (.iaload, 0, 0, 0) := by decide +kernel
theorem xl631 : xat rLawX.1 631 = some (.invokevirtual 59, 144, 2, 11) := by decide +kernel
theorem xl634 : xat rLawX.1 634 = some (.pop, 0, 0, 0) := by decide +kernel
theorem xl635 : xat rLawX.1 635 = some (.aload_n 2, 0, 0, 0) := by decide +kernel
theorem xl636 : xat rLawX.1 636 = some (.aload_n 0, 0, 0, 0) := by decide +kernel
theorem xl637 : xat rLawX.1 637 = some (.iload_n 3, 0, 0, 0) := by decide +kernel
theorem xl638 : xat rLawX.1 638 = some (.iconst 1, 0, 0, 0) := by decide +kernel
theorem xl639 : xat rLawX.1 639 = some (.iadd, 0, 0, 0) := by decide +kernel
theorem xl640 : xat rLawX.1 640 = some (.iaload, 0, 0, 0) := by decide +kernel
theorem xl641 : xat rLawX.1 641 = some (.invokevirtual 62, 250, 2, 12) := by decide +kernel
theorem xl644 : xat rLawX.1 644 = some (.pop, 0, 0, 0) := by decide +kernel
theorem xl645 : xat rLawX.1 645 = some (.goto 1569, 2214, 0, 0) := by decide +kernel
theorem xl648 : xat rLawX.1 648 = some (.aload_n 1, 0, 0, 0) := by decide +kernel
theorem xl649 : xat rLawX.1 649 = some (.aload_n 0, 0, 0, 0) := by decide +kernel
theorem xl650 : xat rLawX.1 650 = some (.iload_n 3, 0, 0, 0) := by decide +kernel
theorem xl651 : xat rLawX.1 651 = some (.iconst 1, 0, 0, 0) := by decide +kernel
theorem xl652 : xat rLawX.1 652 = some (.iadd, 0, 0, 0) := by decide +kernel
theorem xl653 : xat rLawX.1 653 = some (.iaload, 0, 0, 0) := by decide +kernel
theorem xl654 : xat rLawX.1 654 = some (.invokevirtual 63, 146, 2, 11) := by decide +kernel
theorem xl657 : xat rLawX.1 657 = some (.pop, 0, 0, 0) := by decide +kernel
theorem xl658 : xat rLawX.1 658 = some (.aload_n 2, 0, 0, 0) := by decide +kernel
theorem xl659 : xat rLawX.1 659 = some (.aload_n 0, 0, 0, 0) := by decide +kernel
theorem xl660 : xat rLawX.1 660 = some (.iload_n 3, 0, 0, 0) := by decide +kernel
theorem xl661 : xat rLawX.1 661 = some (.iconst 1, 0, 0, 0) := by decide +kernel
theorem xl662 : xat rLawX.1 662 = some (.iadd, 0, 0, 0) := by decide +kernel
theorem xl663 : xat rLawX.1 663 = some (.iaload, 0, 0, 0) := by decide +kernel
theorem xl664 : xat rLawX.1 664 = some (.invokevirtual 66, 233, 2, 12) := by decide +kernel
theorem xl667 : xat rLawX.1 667 = some (.pop, 0, 0, 0) := by decide +kernel
theorem xl668 : xat rLawX.1 668 = some (.goto 1546, 2214, 0, 0) := by decide +kernel
theorem xl671 : xat rLawX.1 671 = some (.aload_n 1, 0, 0, 0) := by decide +kernel
theorem xl672 : xat rLawX.1 672 = some (.aload_n 0, 0, 0, 0) := by decide +kernel
theorem xl673 : xat rLawX.1 673 = some (.iload_n 3, 0, 0, 0) := by decide +kernel
theorem xl674 : xat rLawX.1 674 = some (.iconst 1, 0, 0, 0) := by decide +kernel
theorem xl675 : xat rLawX.1 675 = some (.iadd, 0, 0, 0) := by decide +kernel
theorem xl676 : xat rLawX.1 676 = some (.iaload, 0, 0, 0) := by decide +kernel
theorem xl677 : xat rLawX.1 677 = some (.invokevirtual 67, 147, 2, 11) := by decide +kernel
theorem xl680 : xat rLawX.1 680 = some (.pop, 0, 0, 0) := by decide +kernel
theorem xl681 : xat rLawX.1 681 = some (.aload_n 2, 0, 0, 0) := by decide +kernel
theorem xl682 : xat rLawX.1 682 = some (.aload_n 0, 0, 0, 0) := by decide +kernel
theorem xl683 : xat rLawX.1 683 = some (.iload_n 3, 0, 0, 0) := by decide +kernel
theorem xl684 : xat rLawX.1 684 = some (.iconst 1, 0, 0, 0) := by decide +kernel
theorem xl685 : xat rLawX.1 685 = some (.iadd, 0, 0, 0) := by decide +kernel
theorem xl686 : xat rLawX.1 686 = some (.iaload, 0, 0, 0) := by decide +kernel
theorem xl687 : xat rLawX.1 687 = some (.invokevirtual 70, 272, 2, 12) := by decide +kernel
theorem xl690 : xat rLawX.1 690 = some (.pop, 0, 0, 0) := by decide +kernel
theorem xl691 : xat rLawX.1 691 = some (.goto 1523, 2214, 0, 0) := by decide +kernel
theorem xl694 : xat rLawX.1 694 = some (.aload_n 1, 0, 0, 0) := by decide +kernel
theorem xl695 : xat rLawX.1 695 = some (.aload_n 0, 0, 0, 0) := by decide +kernel
theorem xl696 : xat rLawX.1 696 = some (.iload_n 3, 0, 0, 0) := by decide +kernel
theorem xl697 : xat rLawX.1 697 = some (.iconst 1, 0, 0, 0) := by decide +kernel
theorem xl698 : xat rLawX.1 698 = some (.iadd, 0, 0, 0) := by decide +kernel
theorem xl699 : xat rLawX.1 699 = some (.iaload, 0, 0, 0) := by decide +kernel
theorem xl700 : xat rLawX.1 700 = some (.aload_n 0, 0, 0, 0) := by decide +kernel
theorem xl701 : xat rLawX.1 701 = some (.iload_n 3, 0, 0, 0) := by decide +kernel
theorem xl702 : xat rLawX.1 702 = some (.iconst 2, 0, 0, 0) := by decide +kernel
theorem xl703 : xat rLawX.1 703 = some (.iadd, 0, 0, 0) := by decide +kernel
theorem xl704 : xat rLawX.1 704 = some (.iaload, 0, 0, 0) := by decide +kernel
theorem xl705 : xat rLawX.1 705 = some (.invokevirtual 71, 148, 3, 11) := by decide +kernel
theorem xl708 : xat rLawX.1 708 = some (.pop, 0, 0, 0) := by decide +kernel
theorem xl709 : xat rLawX.1 709 = some (.aload_n 2, 0, 0, 0) := by decide +kernel
theorem xl710 : xat rLawX.1 710 = some (.aload_n 0, 0, 0, 0) := by decide +kernel
theorem xl711 : xat rLawX.1 711 = some (.iload_n 3, 0, 0, 0) := by decide +kernel
theorem xl712 : xat rLawX.1 712 = some (.iconst 1, 0, 0, 0) := by decide +kernel
theorem xl713 : xat rLawX.1 713 = some (.iadd, 0, 0, 0) := by decide +kernel
theorem xl714 : xat rLawX.1 714 = some (.iaload, 0, 0, 0) := by decide +kernel
theorem xl715 : xat rLawX.1 715 = some (.aload_n 0, 0, 0, 0) := by decide +kernel
theorem xl716 : xat rLawX.1 716 = some (.iload_n 3, 0, 0, 0) := by decide +kernel
theorem xl717 : xat rLawX.1 717 = some (.iconst 2, 0, 0, 0) := by decide +kernel
theorem xl718 : xat rLawX.1 718 = some (.iadd, 0, 0, 0) := by decide +kernel
theorem xl719 : xat rLawX.1 719 = some (.iaload, 0, 0, 0) := by decide +kernel
theorem xl720 : xat rLawX.1 720 = some (.invokevirtual 75, 273, 3, 12) := by decide +kernel
theorem xl723 : xat rLawX.1 723 = some (.pop, 0, 0, 0) := by decide +kernel
theorem xl724 : xat rLawX.1 724 = some (.goto 1490, 2214, 0, 0) := by decide +kernel
theorem xl727 : xat rLawX.1 727 = some (.aload_n 1, 0, 0, 0) := by decide +kernel
theorem xl728 : xat rLawX.1 728 = some (.aload_n 0, 0, 0, 0) := by decide +kernel
theorem xl729 : xat rLawX.1 729 = some (.iload_n 3, 0, 0, 0) := by decide +kernel
theorem xl730 : xat rLawX.1 730 = some (.iconst 1, 0, 0, 0) := by decide +kernel
theorem xl731 : xat rLawX.1 731 = some (.iadd, 0, 0, 0) := by decide +kernel
theorem xl732 : xat rLawX.1 732 = some (.iaload, 0, 0, 0) := by decide +kernel
theorem xl733 : xat rLawX.1 733 = some (.aload_n 0, 0, 0, 0) := by decide +kernel
theorem xl734 : xat rLawX.1 734 = some (.iload_n 3, 0, 0, 0) := by decide +kernel
theorem xl735 : xat rLawX.1 735 = some (.iconst 2, 0, 0, 0) := by decide +kernel
theorem xl736 : xat rLawX.1 736 = some (.iadd, 0, 0, 0) := by decide +kernel
theorem xl737 : xat rLawX.1 737 = some (.iaload, 0, 0, 0) := by decide +kernel
theorem xl738 : xat rLawX.1 738 = some (.invokevirtual 76, 149, 3, 11) := by decide +kernel
theorem xl741 : xat rLawX.1 741 = some (.pop, 0, 0, 0) := by decide +kernel
theorem xl742 : xat rLawX.1 742 = some (.aload_n 2, 0, 0, 0) := by decide +kernel
theorem xl743 : xat rLawX.1 743 = some (.aload_n 0, 0, 0, 0) := by decide +kernel
theorem xl744 : xat rLawX.1 744 = some (.iload_n 3, 0, 0, 0) := by decide +kernel
theorem xl745 : xat rLawX.1 745 = some (.iconst 1, 0, 0, 0) := by decide +kernel
theorem xl746 : xat rLawX.1 746 = some (.iadd, 0, 0, 0) := by decide +kernel
theorem xl747 : xat rLawX.1 747 = some (.iaload, 0, 0, 0) := by decide +kernel
theorem xl748 : xat rLawX.1 748 = some (.aload_n 0, 0, 0, 0) := by decide +kernel
theorem xl749 : xat rLawX.1 749 = some (.iload_n 3, 0, 0, 0) := by decide +kernel
theorem xl750 : xat rLawX.1 750 = some (.iconst 2, 0, 0, 0) := by decide +kernel
theorem xl751 : xat rLawX.1 751 = some (.iadd, 0, 0, 0) := by decide +kernel
theorem xl752 : xat rLawX.1 752 = some (.iaload, 0, 0, 0) := by decide +kernel
theorem xl753 : xat rLawX.1 753 = some (.invokevirtual 79, 274, 3, 12) := by decide +kernel
theorem xl756 : xat rLawX.1 756 = some (.pop, 0, 0, 0) := by decide +kernel
theorem xl757 : xat rLawX.1 757 = some (.goto 1457, 2214, 0, 0) := by decide +kernel
theorem xl760 : xat rLawX.1 760 = some (.aload_n 1, 0, 0, 0) := by decide +kernel
theorem xl761 : xat rLawX.1 761 = some (.aload_n 0, 0, 0, 0) := by decide +kernel
theorem xl762 : xat rLawX.1 762 = some (.iload_n 3, 0, 0, 0) := by decide +kernel
theorem xl763 : xat rLawX.1 763 = some (.iconst 1, 0, 0, 0) := by decide +kernel
theorem xl764 : xat rLawX.1 764 = some (.iadd, 0, 0, 0) := by decide +kernel
theorem xl765 : xat rLawX.1 765 = some (.iaload, 0, 0, 0) := by decide +kernel
theorem xl766 : xat rLawX.1 766 = some (.aload_n 0, 0, 0, 0) := by decide +kernel
theorem xl767 : xat rLawX.1 767 = some (.iload_n 3, 0, 0, 0) := by decide +kernel
theorem xl768 : xat rLawX.1 768 = some (.iconst 2, 0, 0, 0) := by decide +kernel
theorem xl769 : xat rLawX.1 769 = some (.iadd, 0, 0, 0) := by decide +kernel
theorem xl770 : xat rLawX.1 770 = some (.iaload, 0, 0, 0) := by decide +kernel
theorem xl771 : xat rLawX.1 771 = some (.invokevirtual 80, 150, 3, 11) := by decide +kernel
theorem xl774 : xat rLawX.1 774 = some (.pop, 0, 0, 0) := by decide +kernel
theorem xl775 : xat rLawX.1 775 = some (.aload_n 2, 0, 0, 0) := by decide +kernel
theorem xl776 : xat rLawX.1 776 = some (.aload_n 0, 0, 0, 0) := by decide +kernel
theorem xl777 : xat rLawX.1 777 = some (.iload_n 3, 0, 0, 0) := by decide +kernel
theorem xl778 : xat rLawX.1 778 = some (.iconst 1, 0, 0, 0) := by decide +kernel
theorem xl779 : xat rLawX.1 779 = some (.iadd, 0, 0, 0) := by decide +kernel
theorem xl780 : xat rLawX.1 780 = some (.iaload, 0, 0, 0) := by decide +kernel
theorem xl781 : xat rLawX.1 781 = some (.aload_n 0, 0, 0, 0) := by decide +kernel
theorem xl782 : xat rLawX.1 782 = some (.iload_n 3, 0, 0, 0) := by decide +kernel
theorem xl783 : xat rLawX.1 783 = some (.iconst 2, 0, 0, 0) := by decide +kernel
theorem xl784 : xat rLawX.1 784 = some (.iadd, 0, 0, 0) := by decide +kernel
theorem xl785 : xat rLawX.1 785 = some (.iaload, 0, 0, 0) := by decide +kernel
theorem xl786 : xat rLawX.1 786 = some (.invokevirtual 83, 275, 3, 12) := by decide +kernel
theorem xl789 : xat rLawX.1 789 = some (.pop, 0, 0, 0) := by decide +kernel
theorem xl790 : xat rLawX.1 790 = some (.goto 1424, 2214, 0, 0) := by decide +kernel
theorem xl793 : xat rLawX.1 793 = some (.aload_n 1, 0, 0, 0) := by decide +kernel
theorem xl794 : xat rLawX.1 794 = some (.aload_n 0, 0, 0, 0) := by decide +kernel
theorem xl795 : xat rLawX.1 795 = some (.iload_n 3, 0, 0, 0) := by decide +kernel
theorem xl796 : xat rLawX.1 796 = some (.iconst 1, 0, 0, 0) := by decide +kernel
theorem xl797 : xat rLawX.1 797 = some (.iadd, 0, 0, 0) := by decide +kernel
theorem xl798 : xat rLawX.1 798 = some (.iaload, 0, 0, 0) := by decide +kernel
theorem xl799 : xat rLawX.1 799 = some (.aload_n 0, 0, 0, 0) := by decide +kernel
theorem xl800 : xat rLawX.1 800 = some (.iload_n 3, 0, 0, 0) := by decide +kernel
theorem xl801 : xat rLawX.1 801 = some (.iconst 2, 0, 0, 0) := by decide +kernel
theorem xl802 : xat rLawX.1 802 = some (.iadd, 0, 0, 0) := by decide +kernel
theorem xl803 : xat rLawX.1 803 = some (.iaload, 0, 0, 0) := by decide +kernel
theorem xl804 : xat rLawX.1 804 = some (.invokevirtual 84, 151, 3, 11) := by decide +kernel
theorem xl807 : xat rLawX.1 807 = some (.pop, 0, 0, 0) := by decide +kernel
theorem xl808 : xat rLawX.1 808 = some (.aload_n 2, 0, 0, 0) := by decide +kernel
theorem xl809 : xat rLawX.1 809 = some (.aload_n 0, 0, 0, 0) := by decide +kernel
theorem xl810 : xat rLawX.1 810 = some (.iload_n 3, 0, 0, 0) := by decide +kernel
theorem xl811 : xat rLawX.1 811 = some (.iconst 1, 0, 0, 0) := by decide +kernel
theorem xl812 : xat rLawX.1 812 = some (.iadd, 0, 0, 0) := by decide +kernel
theorem xl813 : xat rLawX.1 813 = some (.iaload, 0, 0, 0) := by decide +kernel
theorem xl814 : xat rLawX.1 814 = some (.aload_n 0, 0, 0, 0) := by decide +kernel
theorem xl815 : xat rLawX.1 815 = some (.iload_n 3, 0, 0, 0) := by decide +kernel
theorem xl816 : xat rLawX.1 816 = some (.iconst 2, 0, 0, 0) := by decide +kernel
theorem xl817 : xat rLawX.1 817 = some (.iadd, 0, 0, 0) := by decide +kernel
theorem xl818 : xat rLawX.1 818 = some (.iaload, 0, 0, 0) := by decide +kernel
theorem xl819 : xat rLawX.1 819 = some (.invokevirtual 87, 276, 3, 12) := by decide +kernel
theorem xl822 : xat rLawX.1 822 = some (.pop, 0, 0, 0) := by decide +kernel
theorem xl823 : xat rLawX.1 823 = some (.goto 1391, 2214, 0, 0) := by decide +kernel
theorem xl826 : xat rLawX.1 826 = some (.aload_n 1, 0, 0, 0) := by decide +kernel
theorem xl827 : xat rLawX.1 827 = some (.aload_n 0, 0, 0, 0) := by decide +kernel
theorem xl828 : xat rLawX.1 828 = some (.iload_n 3, 0, 0, 0) := by decide +kernel
theorem xl829 : xat rLawX.1 829 = some (.iconst 1, 0, 0, 0) := by decide +kernel
theorem xl830 : xat rLawX.1 830 = some (.iadd, 0, 0, 0) := by decide +kernel
theorem xl831 : xat rLawX.1 831 = some (.iaload, 0, 0, 0) := by decide +kernel
theorem xl832 : xat rLawX.1 832 = some (.aload_n 0, 0, 0, 0) := by decide +kernel
theorem xl833 : xat rLawX.1 833 = some (.iload_n 3, 0, 0, 0) := by decide +kernel
theorem xl834 : xat rLawX.1 834 = some (.iconst 2, 0, 0, 0) := by decide +kernel
theorem xl835 : xat rLawX.1 835 = some (.iadd, 0, 0, 0) := by decide +kernel
theorem xl836 : xat rLawX.1 836 = some (.iaload, 0, 0, 0) := by decide +kernel
theorem xl837 : xat rLawX.1 837 = some (.invokevirtual 88, 152, 3, 11) := by decide +kernel
theorem xl840 : xat rLawX.1 840 = some (.pop, 0, 0, 0) := by decide +kernel
theorem xl841 : xat rLawX.1 841 = some (.aload_n 2, 0, 0, 0) := by decide +kernel
theorem xl842 : xat rLawX.1 842 = some (.aload_n 0, 0, 0, 0) := by decide +kernel
theorem xl843 : xat rLawX.1 843 = some (.iload_n 3, 0, 0, 0) := by decide +kernel
theorem xl844 : xat rLawX.1 844 = some (.iconst 1, 0, 0, 0) := by decide +kernel
theorem xl845 : xat rLawX.1 845 = some (.iadd, 0, 0, 0) := by decide +kernel
theorem xl846 : xat rLawX.1 846 = some (.iaload, 0, 0, 0) := by decide +kernel
theorem xl847 : xat rLawX.1 847 = some (.aload_n 0, 0, 0, 0) := by decide +kernel
theorem xl848 : xat rLawX.1 848 = some (.iload_n 3, 0, 0, 0) := by decide +kernel
theorem xl849 : xat rLawX.1 849 = some (.iconst 2, 0, 0, 0) := by decide +kernel
theorem xl850 : xat rLawX.1 850 = some (.iadd, 0, 0, 0) := by decide +kernel
theorem xl851 : xat rLawX.1 851 = some (.iaload, 0, 0, 0) := by decide +kernel
theorem xl852 : xat rLawX.1 852 = some (.invokevirtual 91, 277, 3, 12) := by decide +kernel
theorem xl855 : xat rLawX.1 855 = some (.pop, 0, 0, 0) := by decide +kernel
theorem xl856 : xat rLawX.1 856 = some (.goto 1358, 2214, 0, 0) := by decide +kernel
theorem xl859 : xat rLawX.1 859 = some (.aload_n 1, 0, 0, 0) := by decide +kernel
theorem xl860 : xat rLawX.1 860 = some (.aload_n 0, 0, 0, 0) := by decide +kernel
theorem xl861 : xat rLawX.1 861 = some (.iload_n 3, 0, 0, 0) := by decide +kernel
theorem xl862 : xat rLawX.1 862 = some (.iconst 1, 0, 0, 0) := by decide +kernel
theorem xl863 : xat rLawX.1 863 = some (.iadd, 0, 0, 0) := by decide +kernel
theorem xl864 : xat rLawX.1 864 = some (.iaload, 0, 0, 0) := by decide +kernel
theorem xl865 : xat rLawX.1 865 = some (.invokevirtual 92, 153, 2, 11) := by decide +kernel
theorem xl868 : xat rLawX.1 868 = some (.pop, 0, 0, 0) := by decide +kernel
theorem xl869 : xat rLawX.1 869 = some (.aload_n 2, 0, 0, 0) := by decide +kernel
theorem xl870 : xat rLawX.1 870 = some (.aload_n 0, 0, 0, 0) := by decide +kernel
theorem xl871 : xat rLawX.1 871 = some (.iload_n 3, 0, 0, 0) := by decide +kernel
theorem xl872 : xat rLawX.1 872 = some (.iconst 1, 0, 0, 0) := by decide +kernel
theorem xl873 : xat rLawX.1 873 = some (.iadd, 0, 0, 0) := by decide +kernel
theorem xl874 : xat rLawX.1 874 = some (.iaload, 0, 0, 0) := by decide +kernel
theorem xl875 : xat rLawX.1 875 = some (.invokevirtual 95, 278, 2, 12) := by decide +kernel
theorem xl878 : xat rLawX.1 878 = some (.pop, 0, 0, 0) := by decide +kernel
theorem xl879 : xat rLawX.1 879 = some (.goto 1335, 2214, 0, 0) := by decide +kernel
theorem xl882 : xat rLawX.1 882 = some (.aload_n 1, 0, 0, 0) := by decide +kernel
theorem xl883 : xat rLawX.1 883 = some (.aload_n 0, 0, 0, 0) := by decide +kernel
theorem xl884 : xat rLawX.1 884 = some (.iload_n 3, 0, 0, 0) := by decide +kernel
theorem xl885 : xat rLawX.1 885 = some (.iconst 1, 0, 0, 0) := by decide +kernel
theorem xl886 : xat rLawX.1 886 = some (.iadd, 0, 0, 0) := by decide +kernel
theorem xl887 : xat rLawX.1 887 = some (.iaload, 0, 0, 0) := by decide +kernel
theorem xl888 : xat rLawX.1 888 = some (.invokevirtual 96, 154, 2, 11) := by decide +kernel
theorem xl891 : xat rLawX.1 891 = some (.pop, 0, 0, 0) := by decide +kernel
theorem xl892 : xat rLawX.1 892 = some (.aload_n 2, 0, 0, 0) := by decide +kernel
theorem xl893 : xat rLawX.1 893 = some (.aload_n 0, 0, 0, 0) := by decide +kernel
theorem xl894 : xat rLawX.1 894 = some (.iload_n 3, 0, 0, 0) := by decide +kernel
theorem xl895 : xat rLawX.1 895 = some (.iconst 1, 0, 0, 0) := by decide +kernel
theorem xl896 : xat rLawX.1 896 = some (.iadd, 0, 0, 0) := by decide +kernel
theorem xl897 : xat rLawX.1 897 = some (.iaload, 0, 0, 0) := by decide +kernel
theorem xl898 : xat rLawX.1 898 = some (.invokevirtual 99, 280, 2, 12) := by decide +kernel
theorem xl901 : xat rLawX.1 901 = some (.pop, 0, 0, 0) := by decide +kernel
theorem xl902 : xat rLawX.1 902 = some (.goto 1312, 2214, 0, 0) := by decide +kernel
theorem xl905 : xat rLawX.1 905 = some (.aload_n 1, 0, 0, 0) := by decide +kernel
theorem xl906 : xat rLawX.1 906 = some (.aload_n 0, 0, 0, 0) := by decide +kernel
theorem xl907 : xat rLawX.1 907 = some (.iload_n 3, 0, 0, 0) := by decide +kernel
theorem xl908 : xat rLawX.1 908 = some (.iconst 1, 0, 0, 0) := by decide +kernel
theorem xl909 : xat rLawX.1 909 = some (.iadd, 0, 0, 0) := by decide +kernel
theorem xl910 : xat rLawX.1 910 = some (.iaload, 0, 0, 0) := by decide +kernel
theorem xl911 : xat rLawX.1 911 = some (.invokevirtual 100, 155, 2, 11) := by decide +kernel
theorem xl914 : xat rLawX.1 914 = some (.pop, 0, 0, 0) := by decide +kernel
theorem xl915 : xat rLawX.1 915 = some (.aload_n 2, 0, 0, 0) := by decide +kernel
theorem xl916 : xat rLawX.1 916 = some (.aload_n 0, 0, 0, 0) := by decide +kernel
theorem xl917 : xat rLawX.1 917 = some (.iload_n 3, 0, 0, 0) := by decide +kernel
theorem xl918 : xat rLawX.1 918 = some (.iconst 1, 0, 0, 0) := by decide +kernel
theorem xl919 : xat rLawX.1 919 = some (.iadd, 0, 0, 0) := by decide +kernel
theorem xl920 : xat rLawX.1 920 = some (.iaload, 0, 0, 0) := by decide +kernel
theorem xl921 : xat rLawX.1 921 = some (.invokevirtual 103, 281, 2, 12) := by decide +kernel
theorem xl924 : xat rLawX.1 924 = some (.pop, 0, 0, 0) := by decide +kernel
theorem xl925 : xat rLawX.1 925 = some (.goto 1289, 2214, 0, 0) := by decide +kernel
theorem xl928 : xat rLawX.1 928 = some (.aload_n 1, 0, 0, 0) := by decide +kernel
theorem xl929 : xat rLawX.1 929 = some (.aload_n 0, 0, 0, 0) := by decide +kernel
theorem xl930 : xat rLawX.1 930 = some (.iload_n 3, 0, 0, 0) := by decide +kernel
theorem xl931 : xat rLawX.1 931 = some (.iconst 1, 0, 0, 0) := by decide +kernel
theorem xl932 : xat rLawX.1 932 = some (.iadd, 0, 0, 0) := by decide +kernel
theorem xl933 : xat rLawX.1 933 = some (.iaload, 0, 0, 0) := by decide +kernel
theorem xl934 : xat rLawX.1 934 = some (.aload_n 0, 0, 0, 0) := by decide +kernel
theorem xl935 : xat rLawX.1 935 = some (.iload_n 3, 0, 0, 0) := by decide +kernel
theorem xl936 : xat rLawX.1 936 = some (.iconst 2, 0, 0, 0) := by decide +kernel
theorem xl937 : xat rLawX.1 937 = some (.iadd, 0, 0, 0) := by decide +kernel
theorem xl938 : xat rLawX.1 938 = some (.iaload, 0, 0, 0) := by decide +kernel
theorem xl939 : xat rLawX.1 939 = some (.invokevirtual 104, 156, 3, 11) := by decide +kernel
theorem xl942 : xat rLawX.1 942 = some (.pop, 0, 0, 0) := by decide +kernel
theorem xl943 : xat rLawX.1 943 = some (.aload_n 2, 0, 0, 0) := by decide +kernel
theorem xl944 : xat rLawX.1 944 = some (.aload_n 0, 0, 0, 0) := by decide +kernel
theorem xl945 : xat rLawX.1 945 = some (.iload_n 3, 0, 0, 0) := by decide +kernel
theorem xl946 : xat rLawX.1 946 = some (.iconst 1, 0, 0, 0) := by decide +kernel
theorem xl947 : xat rLawX.1 947 = some (.iadd, 0, 0, 0) := by decide +kernel
theorem xl948 : xat rLawX.1 948 = some (.iaload, 0, 0, 0) := by decide +kernel
theorem xl949 : xat rLawX.1 949 = some (.aload_n 0, 0, 0, 0) := by decide +kernel
theorem xl950 : xat rLawX.1 950 = some (.iload_n 3, 0, 0, 0) := by decide +kernel
theorem xl951 : xat rLawX.1 951 = some (.iconst 2, 0, 0, 0) := by decide +kernel
theorem xl952 : xat rLawX.1 952 = some (.iadd, 0, 0, 0) := by decide +kernel
theorem xl953 : xat rLawX.1 953 = some (.iaload, 0, 0, 0) := by decide +kernel
theorem xl954 : xat rLawX.1 954 = some (.invokevirtual 107, 287, 3, 12) := by decide +kernel
theorem xl957 : xat rLawX.1 957 = some (.pop, 0, 0, 0) := by decide +kernel
theorem xl958 : xat rLawX.1 958 = some (.goto 1256, 2214, 0, 0) := by decide +kernel
theorem xl961 : xat rLawX.1 961 = some (.aload_n 1, 0, 0, 0) := by decide +kernel
theorem xl962 : xat rLawX.1 962 = some (.aload_n 0, 0, 0, 0) := by decide +kernel
theorem xl963 : xat rLawX.1 963 = some (.iload_n 3, 0, 0, 0) := by decide +kernel
theorem xl964 : xat rLawX.1 964 = some (.iconst 1, 0, 0, 0) := by decide +kernel
theorem xl965 : xat rLawX.1 965 = some (.iadd, 0, 0, 0) := by decide +kernel
theorem xl966 : xat rLawX.1 966 = some (.iaload, 0, 0, 0) := by decide +kernel
theorem xl967 : xat rLawX.1 967 = some (.invokevirtual 108, 157, 2, 11) := by decide +kernel
theorem xl970 : xat rLawX.1 970 = some (.pop, 0, 0, 0) := by decide +kernel
theorem xl971 : xat rLawX.1 971 = some (.aload_n 2, 0, 0, 0) := by decide +kernel
theorem xl972 : xat rLawX.1 972 = some (.aload_n 0, 0, 0, 0) := by decide +kernel
theorem xl973 : xat rLawX.1 973 = some (.iload_n 3, 0, 0, 0) := by decide +kernel
theorem xl974 : xat rLawX.1 974 = some (.iconst 1, 0, 0, 0) := by decide +kernel
theorem xl975 : xat rLawX.1 975 = some (.iadd, 0, 0, 0) := by decide +kernel
theorem xl976 : xat rLawX.1 976 = some (.iaload, 0, 0, 0) := by decide +kernel
theorem xl977 : xat rLawX.1 977 = some (.invokevirtual 111, 288, 2, 12) := by decide +kernel
theorem xl980 : xat rLawX.1 980 = some (.pop, 0, 0, 0) := by decide +kernel
theorem xl981 : xat rLawX.1 981 = some (.goto 1233, 2214, 0, 0) := by decide +kernel
theorem xl984 : xat rLawX.1 984 = some (.aload_n 1, 0, 0, 0) := by decide +kernel
theorem xl985 : xat rLawX.1 985 = some (.aload_n 0, 0, 0, 0) := by decide +kernel
theorem xl986 : xat rLawX.1 986 = some (.iload_n 3, 0, 0, 0) := by decide +kernel
theorem xl987 : xat rLawX.1 987 = some (.iconst 1, 0, 0, 0) := by decide +kernel
theorem xl988 : xat rLawX.1 988 = some (.iadd, 0, 0, 0) := by decide +kernel
theorem xl989 : xat rLawX.1 989 = some (.iaload, 0, 0, 0) := by decide +kernel
theorem xl990 : xat rLawX.1 990 = some (.aload_n 0, 0, 0, 0) := by decide +kernel
theorem xl991 : xat rLawX.1 991 = some (.iload_n 3, 0, 0, 0) := by decide +kernel
theorem xl992 : xat rLawX.1 992 = some (.iconst 2, 0, 0, 0) := by decide +kernel
theorem xl993 : xat rLawX.1 993 = some (.iadd, 0, 0, 0) := by decide +kernel
theorem xl994 : xat rLawX.1 994 = some (.iaload, 0, 0, 0) := by decide +kernel
theorem xl995 : xat rLawX.1 995 = some (.invokevirtual 112, 158, 3, 11) := by decide +kernel
theorem xl998 : xat rLawX.1 998 = some (.pop, 0, 0, 0) := by decide +kernel
theorem xl999 : xat rLawX.1 999 = some (.aload_n 2, 0, 0, 0) := by decide +kernel
theorem xl1000 : xat rLawX.1 1000 = some (.aload_n 0, 0, 0, 0) := by decide +kernel
theorem xl1001 : xat rLawX.1 1001 = some (.iload_n 3, 0, 0, 0) := by decide +kernel
theorem xl1002 : xat rLawX.1 1002 = some (.iconst 1, 0, 0, 0) := by decide +kernel
theorem xl1003 : xat rLawX.1 1003 = some (.iadd, 0, 0, 0) := by decide +kernel
theorem xl1004 : xat rLawX.1 1004 = some (.iaload, 0, 0, 0) := by decide +kernel
theorem xl1005 : xat rLawX.1 1005 = some (.aload_n 0, 0, 0, 0) := by decide +kernel
theorem xl1006 : xat rLawX.1 1006 = some (.iload_n 3, 0, 0, 0) := by decide +kernel
theorem xl1007 : xat rLawX.1 1007 = some (.iconst 2, 0, 0, 0) := by decide +kernel
theorem xl1008 : xat rLawX.1 1008 = some (.iadd, 0, 0, 0) := by decide +kernel
theorem xl1009 : xat rLawX.1 1009 = some (.iaload, 0, 0, 0) := by decide +kernel
theorem xl1010 : xat rLawX.1 1010 = some (.invokevirtual 115, 289, 3, 12) := by decide +kernel
theorem xl1013 : xat rLawX.1 1013 = some (.pop, 0, 0, 0) := by decide +kernel
theorem xl1014 : xat rLawX.1 1014 = some (.goto 1200, 2214, 0, 0) := by decide +kernel
theorem xl1017 : xat rLawX.1 1017 = some (.aload_n 1, 0, 0, 0) := by decide +kernel
theorem xl1018 : xat rLawX.1 1018 = some (.aload_n 0, 0, 0, 0) := by decide +kernel
theorem xl1019 : xat rLawX.1 1019 = some (.iload_n 3, 0, 0, 0) := by decide +kernel
theorem xl1020 : xat rLawX.1 1020 = some (.iconst 1, 0, 0, 0) := by decide +kernel
theorem xl1021 : xat rLawX.1 1021 = some (.iadd, 0, 0, 0) := by decide +kernel
theorem xl1022 : xat rLawX.1 1022 = some (.iaload, 0, 0, 0) := by decide +kernel
theorem xl1023 : xat rLawX.1 1023 = some (.aload_n 0, 0, 0, 0) := by decide +kernel
theorem xl1024 : xat rLawX.1 1024 = some (.iload_n 3, 0, 0, 0) := by decide +kernel
theorem xl1025 : xat rLawX.1 1025 = some (.iconst 2, 0, 0, 0) := by decide +kernel
theorem xl1026 : xat rLawX.1 1026 = some (.iadd, 0, 0, 0) := by decide +kernel
theorem xl1027 : xat rLawX.1 1027 = some (.iaload, 0, 0, 0) := by decide +kernel
theorem xl1028 : xat rLawX.1 1028 = some (.invokevirtual 116, 159, 3, 11) := by decide +kernel
theorem xl1031 : xat rLawX.1 1031 = some (.pop, 0, 0, 0) := by decide +kernel
theorem xl1032 : xat rLawX.1 1032 = some (.aload_n 2, 0, 0, 0) := by decide +kernel
theorem xl1033 : xat rLawX.1 1033 = some (.aload_n 0, 0, 0, 0) := by decide +kernel
theorem xl1034 : xat rLawX.1 1034 = some (.iload_n 3, 0, 0, 0) := by decide +kernel
theorem xl1035 : xat rLawX.1 1035 = some (.iconst 1, 0, 0, 0) := by decide +kernel
theorem xl1036 : xat rLawX.1 1036 = some (.iadd, 0, 0, 0) := by decide +kernel
theorem xl1037 : xat rLawX.1 1037 = some (.iaload, 0, 0, 0) := by decide +kernel
theorem xl1038 : xat rLawX.1 1038 = some (.aload_n 0, 0, 0, 0) := by decide +kernel
theorem xl1039 : xat rLawX.1 1039 = some (.iload_n 3, 0, 0, 0) := by decide +kernel
theorem xl1040 : xat rLawX.1 1040 = some (.iconst 2, 0, 0, 0) := by decide +kernel
theorem xl1041 : xat rLawX.1 1041 = some (.iadd, 0, 0, 0) := by decide +kernel
theorem xl1042 : xat rLawX.1 1042 = some (.iaload, 0, 0, 0) := by decide +kernel
theorem xl1043 : xat rLawX.1 1043 = some (.invokevirtual 119, 290, 3, 12) := by decide +kernel
theorem xl1046 : xat rLawX.1 1046 = some (.pop, 0, 0, 0) := by decide +kernel
theorem xl1047 : xat rLawX.1 1047 = some (.goto 1167, 2214, 0, 0) := by decide +kernel
theorem xl1050 : xat rLawX.1 1050 = some (.aload_n 1, 0, 0, 0) := by decide +kernel
theorem xl1051 : xat rLawX.1 1051 = some (.aload_n 0, 0, 0, 0) := by decide +kernel
theorem xl1052 : xat rLawX.1 1052 = some (.iload_n 3, 0, 0, 0) := by decide +kernel
theorem xl1053 : xat rLawX.1 1053 = some (.iconst 1, 0, 0, 0) := by decide +kernel
theorem xl1054 : xat rLawX.1 1054 = some (.iadd, 0, 0, 0) := by decide +kernel
theorem xl1055 : xat rLawX.1 1055 = some (.iaload, 0, 0, 0) := by decide +kernel
theorem xl1056 : xat rLawX.1 1056 = some (.aload_n 0, 0, 0, 0) := by decide +kernel
theorem xl1057 : xat rLawX.1 1057 = some (.iload_n 3, 0, 0, 0) := by decide +kernel
theorem xl1058 : xat rLawX.1 1058 = some (.iconst 2, 0, 0, 0) := by decide +kernel
theorem xl1059 : xat rLawX.1 1059 = some (.iadd, 0, 0, 0) := by decide +kernel
theorem xl1060 : xat rLawX.1 1060 = some (.iaload, 0, 0, 0) := by decide +kernel
theorem xl1061 : xat rLawX.1 1061 = some (.invokevirtual 120, 160, 3, 11) := by decide +kernel
theorem xl1064 : xat rLawX.1 1064 = some (.pop, 0, 0, 0) := by decide +kernel
theorem xl1065 : xat rLawX.1 1065 = some (.aload_n 2, 0, 0, 0) := by decide +kernel
theorem xl1066 : xat rLawX.1 1066 = some (.aload_n 0, 0, 0, 0) := by decide +kernel
theorem xl1067 : xat rLawX.1 1067 = some (.iload_n 3, 0, 0, 0) := by decide +kernel
theorem xl1068 : xat rLawX.1 1068 = some (.iconst 1, 0, 0, 0) := by decide +kernel
theorem xl1069 : xat rLawX.1 1069 = some (.iadd, 0, 0, 0) := by decide +kernel
theorem xl1070 : xat rLawX.1 1070 = some (.iaload, 0, 0, 0) := by decide +kernel
theorem xl1071 : xat rLawX.1 1071 = some (.aload_n 0, 0, 0, 0) := by decide +kernel
theorem xl1072 : xat rLawX.1 1072 = some (.iload_n 3, 0, 0, 0) := by decide +kernel
theorem xl1073 : xat rLawX.1 1073 = some (.iconst 2, 0, 0, 0) := by decide +kernel
theorem xl1074 : xat rLawX.1 1074 = some (.iadd, 0, 0, 0) := by decide +kernel
theorem xl1075 : xat rLawX.1 1075 = some (.iaload, 0, 0, 0) := by decide +kernel
theorem xl1076 : xat rLawX.1 1076 = some (.invokevirtual 123, 291, 3, 12) := by decide +kernel
theorem xl1079 : xat rLawX.1 1079 = some (.pop, 0, 0, 0) := by decide +kernel
theorem xl1080 : xat rLawX.1 1080 = some (.goto 1134, 2214, 0, 0) := by decide +kernel
theorem xl1083 : xat rLawX.1 1083 = some (.aload_n 1, 0, 0, 0) := by decide +kernel
theorem xl1084 : xat rLawX.1 1084 = some (.aload_n 0, 0, 0, 0) := by decide +kernel
theorem xl1085 : xat rLawX.1 1085 = some (.iload_n 3, 0, 0, 0) := by decide +kernel
theorem xl1086 : xat rLawX.1 1086 = some (.iconst 1, 0, 0, 0) := by decide +kernel
theorem xl1087 : xat rLawX.1 1087 = some (.iadd, 0, 0, 0) := by decide +kernel
theorem xl1088 : xat rLawX.1 1088 = some (.iaload, 0, 0, 0) := by decide +kernel
theorem xl1089 : xat rLawX.1 1089 = some (.aload_n 0, 0, 0, 0) := by decide +kernel
theorem xl1090 : xat rLawX.1 1090 = some (.iload_n 3, 0, 0, 0) := by decide +kernel
theorem xl1091 : xat rLawX.1 1091 = some (.iconst 2, 0, 0, 0) := by decide +kernel
theorem xl1092 : xat rLawX.1 1092 = some (.iadd, 0, 0, 0) := by decide +kernel
theorem xl1093 : xat rLawX.1 1093 = some (.iaload, 0, 0, 0) := by decide +kernel
theorem xl1094 : xat rLawX.1 1094 = some (.invokevirtual 124, 161, 3, 11) := by decide +kernel
theorem xl1097 : xat rLawX.1 1097 = some (.pop, 0, 0, 0) := by decide +kernel
theorem xl1098 : xat rLawX.1 1098 = some (.aload_n 2, 0, 0, 0) := by decide +kernel
theorem xl1099 : xat rLawX.1 1099 = some (.aload_n 0, 0, 0, 0) := by decide +kernel
theorem xl1100 : xat rLawX.1 1100 = some (.iload_n 3, 0, 0, 0) := by decide +kernel
theorem xl1101 : xat rLawX.1 1101 = some (.iconst 1, 0, 0, 0) := by decide +kernel
theorem xl1102 : xat rLawX.1 1102 = some (.iadd, 0, 0, 0) := by decide +kernel
theorem xl1103 : xat rLawX.1 1103 = some (.iaload, 0, 0, 0) := by decide +kernel
theorem xl1104 : xat rLawX.1 1104 = some (.aload_n 0, 0, 0, 0) := by decide +kernel
theorem xl1105 : xat rLawX.1 1105 = some (.iload_n 3, 0, 0, 0) := by decide +kernel
theorem xl1106 : xat rLawX.1 1106 = some (.iconst 2, 0, 0, 0) := by decide +kernel
theorem xl1107 : xat rLawX.1 1107 = some (.iadd, 0, 0, 0) := by decide +kernel
theorem xl1108 : xat rLawX.1 1108 = some (.iaload, 0, 0, 0) := by decide +kernel
theorem xl1109 : xat rLawX.1 1109 = some (.invokevirtual 128, 292, 3, 12) := by decide +kernel
theorem xl1112 : xat rLawX.1 1112 = some (.pop, 0, 0, 0) := by decide +kernel
theorem xl1113 : xat rLawX.1 1113 = some (.goto 1101, 2214, 0, 0) := by decide +kernel
theorem xl1116 : xat rLawX.1 1116 = some (.aload_n 1, 0, 0, 0) := by decide +kernel
theorem xl1117 : xat rLawX.1 1117 = some (.aload_n 0, 0, 0, 0) := by decide +kernel
theorem xl1118 : xat rLawX.1 1118 = some (.iload_n 3, 0, 0, 0) := by decide +kernel
theorem xl1119 : xat rLawX.1 1119 = some (.iconst 1, 0, 0, 0) := by decide +kernel
theorem xl1120 : xat rLawX.1 1120 = some (.iadd, 0, 0, 0) := by decide +kernel
theorem xl1121 : xat rLawX.1 1121 = some (.iaload, 0, 0, 0) := by decide +kernel
theorem xl1122 : xat rLawX.1 1122 = some (.aload_n 0, 0, 0, 0) := by decide +kernel
theorem xl1123 : xat rLawX.1 1123 = some (.iload_n 3, 0, 0, 0) := by decide +kernel
theorem xl1124 : xat rLawX.1 1124 = some (.iconst 2, 0, 0, 0) := by decide +kernel
theorem xl1125 : xat rLawX.1 1125 = some (.iadd, 0, 0, 0) := by decide +kernel
theorem xl1126 : xat rLawX.1 1126 = some (.iaload, 0, 0, 0) := by decide +kernel
theorem xl1127 : xat rLawX.1 1127 = some (.aload_n 0, 0, 0, 0) := by decide +kernel
theorem xl1128 : xat rLawX.1 1128 = some (.iload_n 3, 0, 0, 0) := by decide +kernel
theorem xl1129 : xat rLawX.1 1129 = some (.iconst 3, 0, 0, 0) := by decide +kernel
theorem xl1130 : xat rLawX.1 1130 = some (.iadd, 0, 0, 0) := by decide +kernel
theorem xl1131 : xat rLawX.1 1131 = some (.iaload, 0, 0, 0) := by decide +kernel
theorem xl1132 : xat rLawX.1 1132 = some (.ifCond .eq 7, 1139, 0, 0) := by decide +kernel
theorem xl1135 : xat rLawX.1 1135 = some (.iconst 1, 0, 0, 0) := by decide +kernel
theorem xl1136 : xat rLawX.1 1136 = some (.goto 4, 1140, 0, 0) := by decide +kernel
theorem xl1139 : xat rLawX.1 1139 = some (.iconst 0, 0, 0, 0) := by decide +kernel
theorem xl1140 : xat rLawX.1 1140 = some (.invokevirtual 129, 162, 4, 11) := by decide +kernel
theorem xl1143 : xat rLawX.1 1143 = some (.pop, 0, 0, 0) := by decide +kernel
theorem xl1144 : xat rLawX.1 1144 = some (.aload_n 2, 0, 0, 0) := by decide +kernel
theorem xl1145 : xat rLawX.1 1145 = some (.aload_n 0, 0, 0, 0) := by decide +kernel
theorem xl1146 : xat rLawX.1 1146 = some (.iload_n 3, 0, 0, 0) := by decide +kernel
theorem xl1147 : xat rLawX.1 1147 = some (.iconst 1, 0, 0, 0) := by decide +kernel
theorem xl1148 : xat rLawX.1 1148 = some (.iadd, 0, 0, 0) := by decide +kernel
theorem xl1149 : xat rLawX.1 1149 = some (.iaload, 0, 0, 0) := by decide +kernel
theorem xl1150 : xat rLawX.1 1150 = some (.aload_n 0, 0, 0, 0) := by decide +kernel
theorem xl1151 : xat rLawX.1 1151 = some (.iload_n 3, 0, 0, 0) := by decide +kernel
theorem xl1152 : xat rLawX.1 1152 = some (.iconst 2, 0, 0, 0) := by decide +kernel
theorem xl1153 : xat rLawX.1 1153 = some (.iadd, 0, 0, 0) := by decide +kernel
theorem xl1154 : xat rLawX.1 1154 = some (.iaload, 0, 0, 0) := by decide +kernel
theorem xl1155 : xat rLawX.1 1155 = some (.aload_n 0, 0, 0, 0) := by decide +kernel
theorem xl1156 : xat rLawX.1 1156 = some (.iload_n 3, 0, 0, 0) := by decide +kernel
theorem xl1157 : xat rLawX.1 1157 = some (.iconst 3, 0, 0, 0) := by decide +kernel
theorem xl1158 : xat rLawX.1 1158 = some (.iadd, 0, 0, 0) := by decide +kernel
theorem xl1159 : xat rLawX.1 1159 = some (.iaload, 0, 0, 0) := by decide +kernel
theorem xl1160 : xat rLawX.1 1160 = some (.ifCond .eq 7, 1167, 0, 0) := by decide +kernel
theorem xl1163 : xat rLawX.1 1163 = some (.iconst 1, 0, 0, 0) := by decide +kernel
theorem xl1164 : xat rLawX.1 1164 = some (.goto 4, 1168, 0, 0) := by decide +kernel
theorem xl1167 : xat rLawX.1 1167 = some (.iconst 0, 0, 0, 0) := by decide +kernel
theorem xl1168 : xat rLawX.1 1168 = some (.invokevirtual 133, 293, 4, 12) := by decide +kernel
theorem xl1171 : xat rLawX.1 1171 = some (.pop, 0, 0, 0) := by decide +kernel
theorem xl1172 : xat rLawX.1 1172 = some (.goto 1042, 2214, 0, 0) := by decide +kernel
theorem xl1175 : xat rLawX.1 1175 = some (.aload_n 1, 0, 0, 0) := by decide +kernel
theorem xl1176 : xat rLawX.1 1176 = some (.aload_n 0, 0, 0, 0) := by decide +kernel
theorem xl1177 : xat rLawX.1 1177 = some (.iload_n 3, 0, 0, 0) := by decide +kernel
theorem xl1178 : xat rLawX.1 1178 = some (.iconst 1, 0, 0, 0) := by decide +kernel
theorem xl1179 : xat rLawX.1 1179 = some (.iadd, 0, 0, 0) := by decide +kernel
theorem xl1180 : xat rLawX.1 1180 = some (.iaload, 0, 0, 0) := by decide +kernel
theorem xl1181 : xat rLawX.1 1181 = some (.aload_n 0, 0, 0, 0) := by decide +kernel
theorem xl1182 : xat rLawX.1 1182 = some (.iload_n 3, 0, 0, 0) := by decide +kernel
theorem xl1183 : xat rLawX.1 1183 = some (.iconst 2, 0, 0, 0) := by decide +kernel
theorem xl1184 : xat rLawX.1 1184 = some (.iadd, 0, 0, 0) := by decide +kernel
theorem xl1185 : xat rLawX.1 1185 = some (.iaload, 0, 0, 0) := by decide +kernel
theorem xl1186 : xat rLawX.1 1186 = some (.aload_n 0, 0, 0, 0) := by decide +kernel
theorem xl1187 : xat rLawX.1 1187 = some (.iload_n 3, 0, 0, 0) := by decide +kernel
theorem xl1188 : xat rLawX.1 1188 = some (.iconst 3, 0, 0, 0) := by decide +kernel
theorem xl1189 : xat rLawX.1 1189 = some (.iadd, 0, 0, 0) := by decide +kernel
theorem xl1190 : xat rLawX.1 1190 = some (.iaload, 0, 0, 0) := by decide +kernel
theorem xl1191 : xat rLawX.1 1191 = some (.invokevirtual 134, 163, 4, 11) := by decide +kernel
theorem xl1194 : xat rLawX.1 1194 = some (.pop, 0, 0, 0) := by decide +kernel
theorem xl1195 : xat rLawX.1 1195 = some (.aload_n 2, 0, 0, 0) := by decide +kernel
theorem xl1196 : xat rLawX.1 1196 = some (.aload_n 0, 0, 0, 0) := by decide +kernel
theorem xl1197 : xat rLawX.1 1197 = some (.iload_n 3, 0, 0, 0) := by decide +kernel
theorem xl1198 : xat rLawX.1 1198 = some (.iconst 1, 0, 0, 0) := by decide +kernel
theorem xl1199 : xat rLawX.1 1199 = some (.iadd, 0, 0, 0) := by decide +kernel
theorem xl1200 : xat rLawX.1 1200 = some (.iaload, 0, 0, 0) := by decide +kernel
theorem xl1201 : xat rLawX.1 1201 = some (.aload_n 0, 0, 0, 0) := by decide +kernel
theorem xl1202 : xat rLawX.1 1202 = some (.iload_n 3, 0, 0, 0) := by decide +kernel
theorem xl1203 : xat rLawX.1 1203 = some (.iconst 2, 0, 0, 0) := by decide +kernel
theorem xl1204 : xat rLawX.1 1204 = some (.iadd, 0, 0, 0) := by decide +kernel
theorem xl1205 : xat rLawX.1 1205 = some (.iaload, 0, 0, 0) := by decide +kernel
theorem xl1206 : xat rLawX.1 1206 = some (.aload_n 0, 0, 0, 0) := by decide +kernel
theorem xl1207 : xat rLawX.1 1207 = some (.iload_n 3, 0, 0, 0) := by decide +kernel
theorem xl1208 : xat rLawX.1 1208 = some (.iconst 3, 0, 0, 0) := by decide +kernel
theorem xl1209 : xat rLawX.1 1209 = some (.iadd, 0, 0, 0) := by decide +kernel
theorem xl1210 : xat rLawX.1 1210 = some (.iaload, 0, 0, 0) := by decide +kernel
theorem xl1211 : xat rLawX.1 1211 = some (.invokevirtual 137, 294, 4, 12) := by decide +kernel
theorem xl1214 : xat rLawX.1 1214 = some (.pop, 0, 0, 0) := by decide +kernel
theorem xl1215 : xat rLawX.1 1215 = some (.goto 999, 2214, 0, 0) := by decide +kernel
theorem xl1218 : xat rLawX.1 1218 = some (.aload_n 1, 0, 0, 0) := by decide +kernel
theorem xl1219 : xat rLawX.1 1219 = some (.aload_n 0, 0, 0, 0) := by decide +kernel
theorem xl1220 : xat rLawX.1 1220 = some (.iload_n 3, 0, 0, 0) := by decide +kernel
theorem xl1221 : xat rLawX.1 1221 = some (.iconst 1, 0, 0, 0) := by decide +kernel
theorem xl1222 : xat rLawX.1 1222 = some (.iadd, 0, 0, 0) := by decide +kernel
theorem xl1223 : xat rLawX.1 1223 = some (.iaload, 0, 0, 0) := by decide +kernel
theorem xl1224 : xat rLawX.1 1224 = some (.aload_n 0, 0, 0, 0) := by decide +kernel
theorem xl1225 : xat rLawX.1 1225 = some (.iload_n 3, 0, 0, 0) := by decide +kernel
theorem xl1226 : xat rLawX.1 1226 = some (.iconst 2, 0, 0, 0) := by decide +kernel
theorem xl1227 : xat rLawX.1 1227 = some (.iadd, 0, 0, 0) := by decide +kernel
theorem xl1228 : xat rLawX.1 1228 = some (.iaload, 0, 0, 0) := by decide +kernel
theorem xl1229 : xat rLawX.1 1229 = some (.aload_n 0, 0, 0, 0) := by decide +kernel
theorem xl1230 : xat rLawX.1 1230 = some (.iload_n 3, 0, 0, 0) := by decide +kernel
theorem xl1231 : xat rLawX.1 1231 = some (.iconst 3, 0, 0, 0) := by decide +kernel
theorem xl1232 : xat rLawX.1 1232 = some (.iadd, 0, 0, 0) := by decide +kernel
theorem xl1233 : xat rLawX.1 1233 = some (.iaload, 0, 0, 0) := by decide +kernel
theorem xl1234 : xat rLawX.1 1234 = some (.invokevirtual 138, 164, 4, 11) := by decide +kernel
theorem xl1237 : xat rLawX.1 1237 = some (.pop, 0, 0, 0) := by decide +kernel
theorem xl1238 : xat rLawX.1 1238 = some (.aload_n 2, 0, 0, 0) := by decide +kernel
theorem xl1239 : xat rLawX.1 1239 = some (.aload_n 0, 0, 0, 0) := by decide +kernel
theorem xl1240 : xat rLawX.1 1240 = some (.iload_n 3, 0, 0, 0) := by decide +kernel
theorem xl1241 : xat rLawX.1 1241 = some (.iconst 1, 0, 0, 0) := by decide +kernel
theorem xl1242 : xat rLawX.1 1242 = some (.iadd, 0, 0, 0) := by decide +kernel
theorem xl1243 : xat rLawX.1 1243 = some (.iaload, 0, 0, 0) := by decide +kernel
theorem xl1244 : xat rLawX.1 1244 = some (.aload_n 0, 0, 0, 0) := by decide +kernel
theorem xl1245 : xat rLawX.1 1245 = some (.iload_n 3, 0, 0, 0) := by decide +kernel
theorem xl1246 : xat rLawX.1 1246 = some (.iconst 2, 0, 0, 0) := by decide +kernel
theorem xl1247 : xat rLawX.1 1247 = some (.iadd, 0, 0, 0) := by decide +kernel
theorem xl1248 : xat rLawX.1 1248 = some (.iaload, 0, 0, 0) := by decide +kernel
theorem xl1249 : xat rLawX.1 1249 = some (.aload_n 0, 0, 0, 0) := by decide +kernel
theorem xl1250 : xat rLawX.1 1250 = some (.iload_n 3, 0, 0, 0) := by decide +kernel
theorem xl1251 : xat rLawX.1 1251 = some (.iconst 3, 0, 0, 0) := by decide +kernel
theorem xl1252 : xat rLawX.1 1252 = some (.iadd, 0, 0, 0) := by decide +kernel
theorem xl1253 : xat rLawX.1 1253 = some (.iaload, 0, 0, 0) := by decide +kernel
theorem xl1254 : xat rLawX.1 1254 = some (.invokevirtual 141, 295, 4, 12) := by decide +kernel
theorem xl1257 : xat rLawX.1 1257 = some (.pop, 0, 0, 0) := by decide +kernel
theorem xl1258 : xat rLawX.1 1258 = some (.goto 956, 2214, 0, 0) := by decide +kernel
theorem xl1261 : xat rLawX.1 1261 = some (.aload_n 1, 0, 0, 0) := by decide +kernel
theorem xl1262 : xat rLawX.1 1262 = some (.aload_n 0, 0, 0, 0) := by decide +kernel
theorem xl1263 : xat rLawX.1 1263 = some (.iload_n 3, 0, 0, 0) := by decide +kernel
theorem xl1264 : xat rLawX.1 1264 = some (.iconst 1, 0, 0, 0) := by decide +kernel
theorem xl1265 : xat rLawX.1 1265 = some (.iadd, 0, 0, 0) := by decide +kernel
theorem xl1266 : xat rLawX.1 1266 = some (.iaload, 0, 0, 0) := by decide +kernel
theorem xl1267 : xat rLawX.1 1267 = some (.invokevirtual 142, 165, 2, 11) := by decide +kernel
theorem xl1270 : xat rLawX.1 1270 = some (.pop, 0, 0, 0) := by decide +kernel
theorem xl1271 : xat rLawX.1 1271 = some (.aload_n 2, 0, 0, 0) := by decide +kernel
theorem xl1272 : xat rLawX.1 1272 = some (.aload_n 0, 0, 0, 0) := by decide +kernel
theorem xl1273 : xat rLawX.1 1273 = some (.iload_n 3, 0, 0, 0) := by decide +kernel
theorem xl1274 : xat rLawX.1 1274 = some (.iconst 1, 0, 0, 0) := by decide +kernel
theorem xl1275 : xat rLawX.1 1275 = some (.iadd, 0, 0, 0) := by decide +kernel
theorem xl1276 : xat rLawX.1 1276 = some (.iaload, 0, 0, 0) := by decide +kernel
theorem xl1277 : xat rLawX.1 1277 = some (.invokevirtual 145, 299, 2, 12) := by decide +kernel
theorem xl1280 : xat rLawX.1 1280 = some (.pop, 0, 0, 0) := by decide +kernel
theorem xl1281 : xat rLawX.1 1281 = some (.goto 933, 2214, 0, 0) := by decide +kernel
theorem xl1284 : xat rLawX.1 1284 = some (.aload_n 1, 0, 0, 0) := by decide +kernel
theorem xl1285 : xat rLawX.1 1285 = some (.aload_n 0, 0, 0, 0) := by decide +kernel
theorem xl1286 : xat rLawX.1 1286 = some (.iload_n 3, 0, 0, 0) := by decide +kernel
theorem xl1287 : xat rLawX.1 1287 = some (.iconst 1, 0, 0, 0) := by decide +kernel
theorem xl1288 : xat rLawX.1 1288 = some (.iadd, 0, 0, 0) := by decide +kernel
theorem xl1289 : xat rLawX.1 1289 = some (.iaload, 0, 0, 0) := by decide +kernel
theorem xl1290 : xat rLawX.1 1290 = some (.invokevirtual 146, 166, 2, 11) := by decide +kernel
theorem xl1293 : xat rLawX.1 1293 = some (.pop, 0, 0, 0) := by decide +kernel
theorem xl1294 : xat rLawX.1 1294 = some (.aload_n 2, 0, 0, 0) := by decide +kernel
theorem xl1295 : xat rLawX.1 1295 = some (.aload_n 0, 0, 0, 0) := by decide +kernel
theorem xl1296 : xat rLawX.1 1296 = some (.iload_n 3, 0, 0, 0) := by decide +kernel
theorem xl1297 : xat rLawX.1 1297 = some (.iconst 1, 0, 0, 0) := by decide +kernel
theorem xl1298 : xat rLawX.1 1298 = some (.iadd, 0, 0, 0) := by decide +kernel
theorem xl1299 : xat rLawX.1 1299 = some (.iaload, 0, 0, 0) := by decide +kernel
theorem xl1300 : xat rLawX.1 1300 = some (.invokevirtual 149, 301, 2, 12) := by decide +kernel
theorem xl1303 : xat rLawX.1 1303 = some (.pop, 0, 0, 0) := by decide +kernel
theorem xl1304 : xat rLawX.1 1304 = some (.goto 910, 2214, 0, 0) := by decide +kernel
theorem xl1307 : xat rLawX.1 1307 = some (.aload_n 1, 0, 0, 0) := by decide +kernel
theorem xl1308 : xat rLawX.1 1308 = some (.aload_n 0, 0, 0, 0) := by decide +kernel
theorem xl1309 : xat rLawX.1 1309 = some (.iload_n 3, 0, 0, 0) := by decide +kernel
theorem xl1310 : xat rLawX.1 1310 = some (.iconst 1, 0, 0, 0) := by decide +kernel
theorem xl1311 : xat rLawX.1 1311 = some (.iadd, 0, 0, 0) := by decide +kernel
theorem xl1312 : xat rLawX.1 1312 = some (.iaload, 0, 0, 0) := by decide +kernel
theorem xl1313 : xat rLawX.1 1313 = some (.aload_n 0, 0, 0, 0) := by decide +kernel
theorem xl1314 : xat rLawX.1 1314 = some (.iload_n 3, 0, 0, 0) := by decide +kernel
theorem xl1315 : xat rLawX.1 1315 = some (.iconst 2, 0, 0, 0) := by decide +kernel
theorem xl1316 : xat rLawX.1 1316 = some (.iadd, 0, 0, 0) := by decide +kernel
theorem xl1317 : xat rLawX.1 1317 = some (.iaload, 0, 0, 0) := by decide +kernel
theorem xl1318 : xat rLawX.1 1318 = some (.invokevirtual 150, 167, 3, 11) := by decide +kernel
theorem xl1321 : xat rLawX.1 1321 = some (.pop, 0, 0, 0) := by decide +kernel
theorem xl1322 : xat rLawX.1 1322 = some (.aload_n 2, 0, 0, 0) := by decide +kernel
theorem xl1323 : xat rLawX.1 1323 = some (.aload_n 0, 0, 0, 0) := by decide +kernel
theorem xl1324 : xat rLawX.1 1324 = some (.iload_n 3, 0, 0, 0) := by decide +kernel
theorem xl1325 : xat rLawX.1 1325 = some (.iconst 1, 0, 0, 0) := by decide +kernel
theorem xl1326 : xat rLawX.1 1326 = some (.iadd, 0, 0, 0) := by decide +kernel
theorem xl1327 : xat rLawX.1 1327 = some (.iaload, 0, 0, 0) := by decide +kernel
theorem xl1328 : xat rLawX.1 1328 = some (.aload_n 0, 0, 0, 0) := by decide +kernel
theorem xl1329 : xat rLawX.1 1329 = some (.iload_n 3, 0, 0, 0) := by decide +kernel
theorem xl1330 : xat rLawX.1 1330 = some (.iconst 2, 0, 0, 0) := by decide +kernel
theorem xl1331 : xat rLawX.1 1331 = some (.iadd, 0, 0, 0) := by decide +kernel
theorem xl1332 : xat rLawX.1 1332 = some (.iaload, 0, 0, 0) := by decide +kernel
theorem xl1333 : xat rLawX.1 1333 = some (.invokevirtual 153, 302, 3, 12) := by decide +kernel
theorem xl1336 : xat rLawX.1 1336 = some (.pop, 0, 0, 0) := by decide +kernel
theorem xl1337 : xat rLawX.1 1337 = some (.goto 877, 2214, 0, 0) := by decide +kernel
theorem xl1340 : xat rLawX.1 1340 = some (.aload_n 1, 0, 0, 0) := by decide +kernel
theorem xl1341 : xat rLawX.1 1341 = some (.aload_n 0, 0, 0, 0) := by decide +kernel
theorem xl1342 : xat rLawX.1 1342 = some (.iload_n 3, 0, 0, 0) := by decide +kernel
theorem xl1343 : xat rLawX.1 1343 = some (.iconst 1, 0, 0, 0) := by decide +kernel
theorem xl1344 : xat rLawX.1 1344 = some (.iadd, 0, 0, 0) := by decide +kernel
theorem xl1345 : xat rLawX.1 1345 = some (.iaload, 0, 0, 0) := by decide +kernel
theorem xl1346 : xat rLawX.1 1346 = some (.aload_n 0, 0, 0, 0) := by decide +kernel
theorem xl1347 : xat rLawX.1 1347 = some (.iload_n 3, 0, 0, 0) := by decide +kernel
theorem xl1348 : xat rLawX.1 1348 = some (.iconst 2, 0, 0, 0) := by decide +kernel
theorem xl1349 : xat rLawX.1 1349 = some (.iadd, 0, 0, 0) := by decide +kernel
theorem xl1350 : xat rLawX.1 1350 = some (.iaload, 0, 0, 0) := by decide +kernel
theorem xl1351 : xat rLawX.1 1351 = some (.aload_n 0, 0, 0, 0) := by decide +kernel
theorem xl1352 : xat rLawX.1 1352 = some (.iload_n 3, 0, 0, 0) := by decide +kernel
theorem xl1353 : xat rLawX.1 1353 = some (.iconst 3, 0, 0, 0) := by decide +kernel
theorem xl1354 : xat rLawX.1 1354 = some (.iadd, 0, 0, 0) := by decide +kernel
theorem xl1355 : xat rLawX.1 1355 = some (.iaload, 0, 0, 0) := by decide +kernel
theorem xl1356 : xat rLawX.1 1356 = some (.invokevirtual 154, 168, 4, 11) := by decide +kernel
theorem xl1359 : xat rLawX.1 1359 = some (.pop, 0, 0, 0) := by decide +kernel
theorem xl1360 : xat rLawX.1 1360 = some (.aload_n 2, 0, 0, 0) := by decide +kernel
theorem xl1361 : xat rLawX.1 1361 = some (.aload_n 0, 0, 0, 0) := by decide +kernel
theorem xl1362 : xat rLawX.1 1362 = some (.iload_n 3, 0, 0, 0) := by decide +kernel
theorem xl1363 : xat rLawX.1 1363 = some (.iconst 1, 0, 0, 0) := by decide +kernel
theorem xl1364 : xat rLawX.1 1364 = some (.iadd, 0, 0, 0) := by decide +kernel
theorem xl1365 : xat rLawX.1 1365 = some (.iaload, 0, 0, 0) := by decide +kernel
theorem xl1366 : xat rLawX.1 1366 = some (.aload_n 0, 0, 0, 0) := by decide +kernel
theorem xl1367 : xat rLawX.1 1367 = some (.iload_n 3, 0, 0, 0) := by decide +kernel
theorem xl1368 : xat rLawX.1 1368 = some (.iconst 2, 0, 0, 0) := by decide +kernel
theorem xl1369 : xat rLawX.1 1369 = some (.iadd, 0, 0, 0) := by decide +kernel
theorem xl1370 : xat rLawX.1 1370 = some (.iaload, 0, 0, 0) := by decide +kernel
theorem xl1371 : xat rLawX.1 1371 = some (.aload_n 0, 0, 0, 0) := by decide +kernel
theorem xl1372 : xat rLawX.1 1372 = some (.iload_n 3, 0, 0, 0) := by decide +kernel
theorem xl1373 : xat rLawX.1 1373 = some (.iconst 3, 0, 0, 0) := by decide +kernel
theorem xl1374 : xat rLawX.1 1374 = some (.iadd, 0, 0, 0) := by decide +kernel
theorem xl1375 : xat rLawX.1 1375 = some (.iaload, 0, 0, 0) := by decide +kernel
theorem xl1376 : xat rLawX.1 1376 = some (.invokevirtual 158, 303, 4, 12) := by decide +kernel
theorem xl1379 : xat rLawX.1 1379 = some (.pop, 0, 0, 0) := by decide +kernel
theorem xl1380 : xat rLawX.1 1380 = some (.goto 834, 2214, 0, 0) := by decide +kernel
theorem xl1383 : xat rLawX.1 1383 = some (.aload_n 1, 0, 0, 0) := by decide +kernel
theorem xl1384 : xat rLawX.1 1384 = some (.aload_n 0, 0, 0, 0) := by decide +kernel
theorem xl1385 : xat rLawX.1 1385 = some (.iload_n 3, 0, 0, 0) := by decide +kernel
theorem xl1386 : xat rLawX.1 1386 = some (.iconst 1, 0, 0, 0) := by decide +kernel
theorem xl1387 : xat rLawX.1 1387 = some (.iadd, 0, 0, 0) := by decide +kernel
theorem xl1388 : xat rLawX.1 1388 = some (.iaload, 0, 0, 0) := by decide +kernel
theorem xl1389 : xat rLawX.1 1389 = some (.invokevirtual 159, 169, 2, 11) := by decide +kernel
theorem xl1392 : xat rLawX.1 1392 = some (.pop, 0, 0, 0) := by decide +kernel
theorem xl1393 : xat rLawX.1 1393 = some (.aload_n 2, 0, 0, 0) := by decide +kernel
theorem xl1394 : xat rLawX.1 1394 = some (.aload_n 0, 0, 0, 0) := by decide +kernel
theorem xl1395 : xat rLawX.1 1395 = some (.iload_n 3, 0, 0, 0) := by decide +kernel
theorem xl1396 : xat rLawX.1 1396 = some (.iconst 1, 0, 0, 0) := by decide +kernel
theorem xl1397 : xat rLawX.1 1397 = some (.iadd, 0, 0, 0) := by decide +kernel
theorem xl1398 : xat rLawX.1 1398 = some (.iaload, 0, 0, 0) := by decide +kernel
theorem xl1399 : xat rLawX.1 1399 = some (.invokevirtual 162, 304, 2, 12) := by decide +kernel
theorem xl1402 : xat rLawX.1 1402 = some (.pop, 0, 0, 0) := by decide +kernel
theorem xl1403 : xat rLawX.1 1403 = some (.goto 811, 2214, 0, 0) := by decide +kernel
theorem xl1406 : xat rLawX.1 1406 = some (.aload_n 1, 0, 0, 0) := by decide +kernel
theorem xl1407 : xat rLawX.1 1407 = some (.aload_n 0, 0, 0, 0) := by decide +kernel
theorem xl1408 : xat rLawX.1 1408 = some (.iload_n 3, 0, 0, 0) := by decide +kernel
theorem xl1409 : xat rLawX.1 1409 = some (.iconst 1, 0, 0, 0) := by decide +kernel
theorem xl1410 : xat rLawX.1 1410 = some (.iadd, 0, 0, 0) := by decide +kernel
theorem xl1411 : xat rLawX.1 1411 = some (.iaload, 0, 0, 0) := by decide +kernel
theorem xl1412 : xat rLawX.1 1412 = some (.invokevirtual 163, 170, 2, 11) := by decide +kernel
theorem xl1415 : xat rLawX.1 1415 = some (.pop, 0, 0, 0) := by decide +kernel
theorem xl1416 : xat rLawX.1 1416 = some (.aload_n 2, 0, 0, 0) := by decide +kernel
theorem xl1417 : xat rLawX.1 1417 = some (.aload_n 0, 0, 0, 0) := by decide +kernel
theorem xl1418 : xat rLawX.1 1418 = some (.iload_n 3, 0, 0, 0) := by decide +kernel
theorem xl1419 : xat rLawX.1 1419 = some (.iconst 1, 0, 0, 0) := by decide +kernel
theorem xl1420 : xat rLawX.1 1420 = some (.iadd, 0, 0, 0) := by decide +kernel
theorem xl1421 : xat rLawX.1 1421 = some (.iaload, 0, 0, 0) := by decide +kernel
theorem xl1422 : xat rLawX.1 1422 = some (.invokevirtual 166, 307, 2, 12) := by decide +kernel
theorem xl1425 : xat rLawX.1 1425 = some (.pop, 0, 0, 0) := by decide +kernel
theorem xl1426 : xat rLawX.1 1426 = some (.goto 788, 2214, 0, 0) := by decide +kernel
theorem xl1429 : xat rLawX.1 1429 = some (.aload_n 1, 0, 0, 0) := by decide +kernel
theorem xl1430 : xat rLawX.1 1430 = some (.aload_n 0, 0, 0, 0) := by decide +kernel
theorem xl1431 : xat rLawX.1 1431 = some (.iload_n 3, 0, 0, 0) := by decide +kernel
theorem xl1432 : xat rLawX.1 1432 = some (.iconst 1, 0, 0, 0) := by decide +kernel
theorem xl1433 : xat rLawX.1 1433 = some (.iadd, 0, 0, 0) := by decide +kernel
theorem xl1434 : xat rLawX.1 1434 = some (.iaload, 0, 0, 0) := by decide +kernel
theorem xl1435 : xat rLawX.1 1435 = some (.invokevirtual 167, 171, 2, 11) := by decide +kernel
theorem xl1438 : xat rLawX.1 1438 = some (.pop, 0, 0, 0) := by decide +kernel
theorem xl1439 : xat rLawX.1 1439 = some (.aload_n 2, 0, 0, 0) := by decide +kernel
theorem xl1440 : xat rLawX.1 1440 = some (.aload_n 0, 0, 0, 0) := by decide +kernel
theorem xl1441 : xat rLawX.1 1441 = some (.iload_n 3, 0, 0, 0) := by decide +kernel
theorem xl1442 : xat rLawX.1 1442 = some (.iconst 1, 0, 0, 0) := by decide +kernel
theorem xl1443 : xat rLawX.1 1443 = some (.iadd, 0, 0, 0) := by decide +kernel
theorem xl1444 : xat rLawX.1 1444 = some (.iaload, 0, 0, 0) := by decide +kernel
theorem xl1445 : xat rLawX.1 1445 = some (.invokevirtual 170, 308, 2, 12) := by decide +kernel
theorem xl1448 : xat rLawX.1 1448 = some (.pop, 0, 0, 0) := by decide +kernel
theorem xl1449 : xat rLawX.1 1449 = some (.goto 765, 2214, 0, 0) := by decide +kernel
theorem xl1452 : xat rLawX.1 1452 = some (.aload_n 1, 0, 0, 0) := by decide +kernel
theorem xl1453 : xat rLawX.1 1453 = some (.aload_n 0, 0, 0, 0) := by decide +kernel
theorem xl1454 : xat rLawX.1 1454 = some (.iload_n 3, 0, 0, 0) := by decide +kernel
theorem xl1455 : xat rLawX.1 1455 = some (.iconst 1, 0, 0, 0) := by decide +kernel
theorem xl1456 : xat rLawX.1 1456 = some (.iadd, 0, 0, 0) := by decide +kernel
theorem xl1457 : xat rLawX.1 1457 = some (.iaload, 0, 0, 0) := by decide +kernel
theorem xl1458 : xat rLawX.1 1458 = some (.aload_n 0, 0, 0, 0) := by decide +kernel
theorem xl1459 : xat rLawX.1 1459 = some (.iload_n 3, 0, 0, 0) := by decide +kernel
theorem xl1460 : xat rLawX.1 1460 = some (.iconst 2, 0, 0, 0) := by decide +kernel
theorem xl1461 : xat rLawX.1 1461 = some (.iadd, 0, 0, 0) := by decide +kernel
theorem xl1462 : xat rLawX.1 1462 = some (.iaload, 0, 0, 0) := by decide +kernel
theorem xl1463 : xat rLawX.1 1463 = some (.invokevirtual 171, 172, 3, 11) := by decide +kernel
theorem xl1466 : xat rLawX.1 1466 = some (.pop, 0, 0, 0) := by decide +kernel
theorem xl1467 : xat rLawX.1 1467 = some (.aload_n 2, 0, 0, 0) := by decide +kernel
theorem xl1468 : xat rLawX.1 1468 = some (.aload_n 0, 0, 0, 0) := by decide +kernel
theorem xl1469 : xat rLawX.1 1469 = some (.iload_n 3, 0, 0, 0) := by decide +kernel
theorem xl1470 : xat rLawX.1 1470 = some (.iconst 1, 0, 0, 0) := by decide +kernel
theorem xl1471 : xat rLawX.1 1471 = some (.iadd, 0, 0, 0) := by decide +kernel
theorem xl1472 : xat rLawX.1 1472 = some (.iaload, 0, 0, 0) := by decide +kernel
theorem xl1473 : xat rLawX.1 1473 = some (.aload_n 0, 0, 0, 0) := by decide +kernel
theorem xl1474 : xat rLawX.1 1474 = some (.iload_n 3, 0, 0, 0) := by decide +kernel
theorem xl1475 : xat rLawX.1 1475 = some (.iconst 2, 0, 0, 0) := by decide +kernel
theorem xl1476 : xat rLawX.1 1476 = some (.iadd, 0, 0, 0) := by decide +kernel
theorem xl1477 : xat rLawX.1 1477 = some (.iaload, 0, 0, 0) := by decide +kernel
theorem xl1478 : xat rLawX.1 1478 = some (.invokevirtual 174, 309, 3, 12) := by decide +kernel
theorem xl1481 : xat rLawX.1 1481 = some (.pop, 0, 0, 0) := by decide +kernel
theorem xl1482 : xat rLawX.1 1482 = some (.goto 732, 2214, 0, 0) := by decide +kernel
theorem xl1485 : xat rLawX.1 1485 = some (.aload_n 1, 0, 0, 0) := by decide +kernel
theorem xl1486 : xat rLawX.1 1486 = some (.aload_n 0, 0, 0, 0) := by decide +kernel
theorem xl1487 : xat rLawX.1 1487 = some (.iload_n 3, 0, 0, 0) := by decide +kernel
theorem xl1488 : xat rLawX.1 1488 = some (.iconst 1, 0, 0, 0) := by decide +kernel
theorem xl1489 : xat rLawX.1 1489 = some (.iadd, 0, 0, 0) := by decide +kernel
theorem xl1490 : xat rLawX.1 1490 = some (.iaload, 0, 0, 0) := by decide +kernel
theorem xl1491 : xat rLawX.1 1491 = some (.aload_n 0, 0, 0, 0) := by decide +kernel
theorem xl1492 : xat rLawX.1 1492 = some (.iload_n 3, 0, 0, 0) := by decide +kernel
theorem xl1493 : xat rLawX.1 1493 = some (.iconst 2, 0, 0, 0) := by decide +kernel
theorem xl1494 : xat rLawX.1 1494 = some (.iadd, 0, 0, 0) := by decide +kernel
theorem xl1495 : xat rLawX.1 1495 = some (.iaload, 0, 0, 0) := by decide +kernel
theorem xl1496 : xat rLawX.1 1496 = some (.invokevirtual 175, 173, 3, 11) := by decide +kernel
theorem xl1499 : xat rLawX.1 1499 = some (.pop, 0, 0, 0) := by decide +kernel
theorem xl1500 : xat rLawX.1 1500 = some (.aload_n 2, 0, 0, 0) := by decide +kernel
theorem xl1501 : xat rLawX.1 1501 = some (.aload_n 0, 0, 0, 0) := by decide +kernel
theorem xl1502 : xat rLawX.1 1502 = some (.iload_n 3, 0, 0, 0) := by decide +kernel
theorem xl1503 : xat rLawX.1 1503 = some (.iconst 1, 0, 0, 0) := by decide +kernel
theorem xl1504 : xat rLawX.1 1504 = some (.iadd, 0, 0, 0) := by decide +kernel
theorem xl1505 : xat rLawX.1 1505 = some (.iaload, 0, 0, 0) := by decide +kernel
theorem xl1506 : xat rLawX.1 1506 = some (.aload_n 0, 0, 0, 0) := by decide +kernel
theorem xl1507 : xat rLawX.1 1507 = some (.iload_n 3, 0, 0, 0) := by decide +kernel
theorem xl1508 : xat rLawX.1 1508 = some (.iconst 2, 0, 0, 0) := by decide +kernel
theorem xl1509 : xat rLawX.1 1509 = some (.iadd, 0, 0, 0) := by decide +kernel
theorem xl1510 : xat rLawX.1 1510 = some (.iaload, 0, 0, 0) := by decide +kernel
theorem xl1511 : xat rLawX.1 1511 = some (.invokevirtual 178, 310, 3, 12) := by decide +kernel
theorem xl1514 : xat rLawX.1 1514 = some (.pop, 0, 0, 0) := by decide +kernel
theorem xl1515 : xat rLawX.1 1515 = some (.goto 699, 2214, 0, 0) := by decide +kernel
theorem xl1518 : xat rLawX.1 1518 = some (.aload_n 1, 0, 0, 0) := by decide +kernel
theorem xl1519 : xat rLawX.1 1519 = some (.aload_n 0, 0, 0, 0) := by decide +kernel
theorem xl1520 : xat rLawX.1 1520 = some (.iload_n 3, 0, 0, 0) := by decide +kernel
theorem xl1521 : xat rLawX.1 1521 = some (.iconst 1, 0, 0, 0) := by decide +kernel
theorem xl1522 : xat rLawX.1 1522 = some (.iadd, 0, 0, 0) := by decide +kernel
theorem xl1523 : xat rLawX.1 1523 = some (.iaload, 0, 0, 0) := by decide +kernel
theorem xl1524 : xat rLawX.1 1524 = some (.invokevirtual 179, 174, 2, 11) := by decide +kernel
theorem xl1527 : xat rLawX.1 1527 = some (.pop, 0, 0, 0) := by decide +kernel
theorem xl1528 : xat rLawX.1 1528 = some (.aload_n 2, 0, 0, 0) := by decide +kernel
theorem xl1529 : xat rLawX.1 1529 = some (.aload_n 0, 0, 0, 0) := by decide +kernel
theorem xl1530 : xat rLawX.1 1530 = some (.iload_n 3, 0, 0, 0) := by decide +kernel
theorem xl1531 : xat rLawX.1 1531 = some (.iconst 1, 0, 0, 0) := by decide +kernel
theorem xl1532 : xat rLawX.1 1532 = some (.iadd, 0, 0, 0) := by decide +kernel
theorem xl1533 : xat rLawX.1 1533 = some (.iaload, 0, 0, 0) := by decide +kernel
theorem xl1534 : xat rLawX.1 1534 = some (.invokevirtual 182, 311, 2, 12) := by decide +kernel
theorem xl1537 : xat rLawX.1 1537 = some (.pop, 0, 0, 0) := by decide +kernel
theorem xl1538 : xat rLawX.1 1538 = some (.goto 676, 2214, 0, 0) := by decide +kernel
theorem xl1541 : xat rLawX.1 1541 = some (.aload_n 1, 0, 0, 0) := by decide +kernel
theorem xl1542 : xat rLawX.1 1542 = some (.invokevirtual 183, 175, 1, 11) := by decide +kernel
theorem xl1545 : xat rLawX.1 1545 = some (.pop, 0, 0, 0) := by decide +kernel
theorem xl1546 : xat rLawX.1 1546 = some (.aload_n 2, 0, 0, 0) := by decide +kernel
theorem xl1547 : xat rLawX.1 1547 = some (.invokevirtual 186, 313, 1, 12) := by decide +kernel
theorem xl1550 : xat rLawX.1 1550 = some (.pop, 0, 0, 0) := by decide +kernel
theorem xl1551 : xat rLawX.1 1551 = some (.goto 663, 2214, 0, 0) := by decide +kernel
theorem xl1554 : xat rLawX.1 1554 = some (.aload_n 1, 0, 0, 0) := by decide +kernel
theorem xl1555 : xat rLawX.1 1555 = some (.aload_n 0, 0, 0, 0) := by decide +kernel
theorem xl1556 : xat rLawX.1 1556 = some (.iload_n 3, 0, 0, 0) := by decide +kernel
theorem xl1557 : xat rLawX.1 1557 = some (.iconst 1, 0, 0, 0) := by decide +kernel
theorem xl1558 : xat rLawX.1 1558 = some (.iadd, 0, 0, 0) := by decide +kernel
theorem xl1559 : xat rLawX.1 1559 = some (.iaload, 0, 0, 0) := by decide +kernel
theorem xl1560 : xat rLawX.1 1560 = some (.aload_n 0, 0, 0, 0) := by decide +kernel
theorem xl1561 : xat rLawX.1 1561 = some (.iload_n 3, 0, 0, 0) := by decide +kernel
theorem xl1562 : xat rLawX.1 1562 = some (.iconst 2, 0, 0, 0) := by decide +kernel
theorem xl1563 : xat rLawX.1 1563 = some (.iadd, 0, 0, 0) := by decide +kernel
theorem xl1564 : xat rLawX.1 1564 = some (.iaload, 0, 0, 0) := by decide +kernel
theorem xl1565 : xat rLawX.1 1565 = some (.invokevirtual 187, 176, 3, 11) := by decide +kernel
theorem xl1568 : xat rLawX.1 1568 = some (.pop, 0, 0, 0) := by decide +kernel
theorem xl1569 : xat rLawX.1 1569 = some (.aload_n 2, 0, 0, 0) := by decide +kernel
theorem xl1570 : xat rLawX.1 1570 = some (.aload_n 0, 0, 0, 0) := by decide +kernel
theorem xl1571 : xat rLawX.1 1571 = some (.iload_n 3, 0, 0, 0) := by decide +kernel
theorem xl1572 : xat rLawX.1 1572 = some (.iconst 1, 0, 0, 0) := by decide +kernel
theorem xl1573 : xat rLawX.1 1573 = some (.iadd, 0, 0, 0) := by decide +kernel
theorem xl1574 : xat rLawX.1 1574 = some (.iaload, 0, 0, 0) := by decide +kernel
theorem xl1575 : xat rLawX.1 1575 = some (.aload_n 0, 0, 0, 0) := by decide +kernel
theorem xl1576 : xat rLawX.1 1576 = some (.iload_n 3, 0, 0, 0) := by decide +kernel
theorem xl1577 : xat rLawX.1 1577 = some (.iconst 2, 0, 0, 0) := by decide +kernel
theorem xl1578 : xat rLawX.1 1578 = some (.iadd, 0, 0, 0) := by decide +kernel
theorem xl1579 : xat rLawX.1 1579 = some (.iaload, 0, 0, 0) := by decide +kernel
theorem xl1580 : xat rLawX.1 1580 = some (.invokevirtual 190, 314, 3, 12) := by decide +kernel
theorem xl1583 : xat rLawX.1 1583 = some (.pop, 0, 0, 0) := by decide +kernel
theorem xl1584 : xat rLawX.1 1584 = some (.goto 630, 2214, 0, 0) := by decide +kernel
theorem xl1587 : xat rLawX.1 1587 = some (.aload_n 1, 0, 0, 0) := by decide +kernel
theorem xl1588 : xat rLawX.1 1588 = some (.aload_n 0, 0, 0, 0) := by decide +kernel
theorem xl1589 : xat rLawX.1 1589 = some (.iload_n 3, 0, 0, 0) := by decide +kernel
theorem xl1590 : xat rLawX.1 1590 = some (.iconst 1, 0, 0, 0) := by decide +kernel
theorem xl1591 : xat rLawX.1 1591 = some (.iadd, 0, 0, 0) := by decide +kernel
theorem xl1592 : xat rLawX.1 1592 = some (.iaload, 0, 0, 0) := by decide +kernel
theorem xl1593 : xat rLawX.1 1593 = some (.aload_n 0, 0, 0, 0) := by decide +kernel
theorem xl1594 : xat rLawX.1 1594 = some (.iload_n 3, 0, 0, 0) := by decide +kernel
theorem xl1595 : xat rLawX.1 1595 = some (.iconst 2, 0, 0, 0) := by decide +kernel
theorem xl1596 : xat rLawX.1 1596 = some (.iadd, 0, 0, 0) := by decide +kernel
theorem xl1597 : xat rLawX.1 1597 = some (.iaload, 0, 0, 0) := by decide +kernel
theorem xl1598 : xat rLawX.1 1598 = some (.invokevirtual 191, 177, 3, 11) := by decide +kernel
theorem xl1601 : xat rLawX.1 1601 = some (.pop, 0, 0, 0) := by decide +kernel
theorem xl1602 : xat rLawX.1 1602 = some (.aload_n 2, 0, 0, 0) := by decide +kernel
theorem xl1603 : xat rLawX.1 1603 = some (.aload_n 0, 0, 0, 0) := by decide +kernel
theorem xl1604 : xat rLawX.1 1604 = some (.iload_n 3, 0, 0, 0) := by decide +kernel
theorem xl1605 : xat rLawX.1 1605 = some (.iconst 1, 0, 0, 0) := by decide +kernel
theorem xl1606 : xat rLawX.1 1606 = some (.iadd, 0, 0, 0) := by decide +kernel
theorem xl1607 : xat rLawX.1 1607 = some (.iaload, 0, 0, 0) := by decide +kernel
theorem xl1608 : xat rLawX.1 1608 = some (.aload_n 0, 0, 0, 0) := by decide +kernel
theorem xl1609 : xat rLawX.1 1609 = some (.iload_n 3, 0, 0, 0) := by decide +kernel
theorem xl1610 : xat rLawX.1 1610 = some (.iconst 2, 0, 0, 0) := by decide +kernel
theorem xl1611 : xat rLawX.1 1611 = some (.iadd, 0, 0, 0) := by decide +kernel
theorem xl1612 : xat rLawX.1 1612 = some (.iaload, 0, 0, 0) := by decide +kernel
theorem xl1613 : xat rLawX.1 1613 = some (.invokevirtual 194, 318, 3, 12) := by decide +kernel
theorem xl1616 : xat rLawX.1 1616 = some (.pop, 0, 0, 0) := by decide +kernel
theorem xl1617 : xat rLawX.1 1617 = some (.goto 597, 2214, 0, 0) := by decide +kernel
theorem xl1620 : xat rLawX.1 1620 = some (.aload_n 1, 0, 0, 0) := by decide +kernel
theorem xl1621 : xat rLawX.1 1621 = some (.aload_n 0, 0, 0, 0) := by decide +kernel
theorem xl1622 : xat rLawX.1 1622 = some (.iload_n 3, 0, 0, 0) := by decide +kernel
theorem xl1623 : xat rLawX.1 1623 = some (.iconst 1, 0, 0, 0) := by decide +kernel
theorem xl1624 : xat rLawX.1 1624 = some (.iadd, 0, 0, 0) := by decide +kernel
theorem xl1625 : xat rLawX.1 1625 = some (.iaload, 0, 0, 0) := by decide +kernel
theorem xl1626 : xat rLawX.1 1626 = some (.aload_n 0, 0, 0, 0) := by decide +kernel
theorem xl1627 : xat rLawX.1 1627 = some (.iload_n 3, 0, 0, 0) := by decide +kernel
theorem xl1628 : xat rLawX.1 1628 = some (.iconst 2, 0, 0, 0) := by decide +kernel
theorem xl1629 : xat rLawX.1 1629 = some (.iadd, 0, 0, 0) := by decide +kernel
theorem xl1630 : xat rLawX.1 1630 = some (.iaload, 0, 0, 0) := by decide +kernel
theorem xl1631 : xat rLawX.1 1631 = some (.invokevirtual 195, 178, 3, 11) := by decide +kernel
theorem xl1634 : xat rLawX.1 1634 = some (.pop, 0, 0, 0) := by decide +kernel
theorem xl1635 : xat rLawX.1 1635 = some (.aload_n 2, 0, 0, 0) := by decide +kernel
theorem xl1636 : xat rLawX.1 1636 = some (.aload_n 0, 0, 0, 0) := by decide +kernel
theorem xl1637 : xat rLawX.1 1637 = some (.iload_n 3, 0, 0, 0) := by decide +kernel
theorem xl1638 : xat rLawX.1 1638 = some (.iconst 1, 0, 0, 0) := by decide +kernel
theorem xl1639 : xat rLawX.1 1639 = some (.iadd, 0, 0, 0) := by decide +kernel
theorem xl1640 : xat rLawX.1 1640 = some (.iaload, 0, 0, 0) := by decide +kernel
theorem xl1641 : xat rLawX.1 1641 = some (.aload_n 0, 0, 0, 0) := by decide +kernel
theorem xl1642 : xat rLawX.1 1642 = some (.iload_n 3, 0, 0, 0) := by decide +kernel
theorem xl1643 : xat rLawX.1 1643 = some (.iconst 2, 0, 0, 0) := by decide +kernel
theorem xl1644 : xat rLawX.1 1644 = some (.iadd, 0, 0, 0) := by decide +kernel
theorem xl1645 : xat rLawX.1 1645 = some (.iaload, 0, 0, 0) := by decide +kernel
theorem xl1646 : xat rLawX.1 1646 = some (.invokevirtual 198, 319, 3, 12) := by decide +kernel
theorem xl1649 : xat rLawX.1 1649 = some (.pop, 0, 0, 0) := by decide +kernel
theorem xl1650 : xat rLawX.1 1650 = some (.goto 564, 2214, 0, 0) := by decide +kernel
theorem xl1653 : xat rLawX.1 1653 = some (.aload_n 1, 0, 0, 0) := by decide +kernel
theorem xl1654 : xat rLawX.1 1654 = some (.aload_n 0, 0, 0, 0) := by decide +kernel
theorem xl1655 : xat rLawX.1 1655 = some (.iload_n 3, 0, 0, 0) := by decide +kernel
theorem xl1656 : xat rLawX.1 1656 = some (.iconst 1, 0, 0, 0) := by decide +kernel
theorem xl1657 : xat rLawX.1 1657 = some (.iadd, 0, 0, 0) := by decide +kernel
theorem xl1658 : xat rLawX.1 1658 = some (.iaload, 0, 0, 0) := by decide +kernel
theorem xl1659 : xat rLawX.1 1659 = some (.aload_n 0, 0, 0, 0) := by decide +kernel
theorem xl1660 : xat rLawX.1 1660 = some (.iload_n 3, 0, 0, 0) := by decide +kernel
theorem xl1661 : xat rLawX.1 1661 = some (.iconst 2, 0, 0, 0) := by decide +kernel
theorem xl1662 : xat rLawX.1 1662 = some (.iadd, 0, 0, 0) := by decide +kernel
theorem xl1663 : xat rLawX.1 1663 = some (.iaload, 0, 0, 0) := by decide +kernel
theorem xl1664 : xat rLawX.1 1664 = some (.invokevirtual 199, 179, 3, 11) := by decide +kernel
theorem xl1667 : xat rLawX.1 1667 = some (.pop, 0, 0, 0) := by decide +kernel
theorem xl1668 : xat rLawX.1 1668 = some (.aload_n 2, 0, 0, 0) := by decide +kernel
theorem xl1669 : xat rLawX.1 1669 = some (.aload_n 0, 0, 0, 0) := by decide +kernel
theorem xl1670 : xat rLawX.1 1670 = some (.iload_n 3, 0, 0, 0) := by decide +kernel
theorem xl1671 : xat rLawX.1 1671 = some (.iconst 1, 0, 0, 0) := by decide +kernel
theorem xl1672 : xat rLawX.1 1672 = some (.iadd, 0, 0, 0) := by decide +kernel
theorem xl1673 : xat rLawX.1 1673 = some (.iaload, 0, 0, 0) := by decide +kernel
theorem xl1674 : xat rLawX.1 1674 = some (.aload_n 0, 0, 0, 0) := by decide +kernel
theorem xl1675 : xat rLawX.1 1675 = some (.iload_n 3, 0, 0, 0) := by decide +kernel
theorem xl1676 : xat rLawX.1 1676 = some (.iconst 2, 0, 0, 0) := by decide +kernel
theorem xl1677 : xat rLawX.1 1677 = some (.iadd, 0, 0, 0) := by decide +kernel
theorem xl1678 : xat rLawX.1 1678 = some (.iaload, 0, 0, 0) := by decide +kernel
theorem xl1679 : xat rLawX.1 1679 = some (.invokevirtual 202, 320, 3, 12) := by decide +kernel
theorem xl1682 : xat rLawX.1 1682 = some (.pop, 0, 0, 0) := by decide +kernel
theorem xl1683 : xat rLawX.1 1683 = some (.goto 531, 2214, 0, 0) := by decide +kernel
theorem xl1686 : xat rLawX.1 1686 = some (.aload_n 1, 0, 0, 0) := by decide +kernel
theorem xl1687 : xat rLawX.1 1687 = some (.aload_n 0, 0, 0, 0) := by decide +kernel
theorem xl1688 : xat rLawX.1 1688 = some (.iload_n 3, 0, 0, 0) := by decide +kernel
theorem xl1689 : xat rLawX.1 1689 = some (.iconst 1, 0, 0, 0) := by decide +kernel
theorem xl1690 : xat rLawX.1 1690 = some (.iadd, 0, 0, 0) := by decide +kernel
theorem xl1691 : xat rLawX.1 1691 = some (.iaload, 0, 0, 0) := by decide +kernel
theorem xl1692 : xat rLawX.1 1692 = some (.aload_n 0, 0, 0, 0) := by decide +kernel
theorem xl1693 : xat rLawX.1 1693 = some (.iload_n 3, 0, 0, 0) := by decide +kernel
theorem xl1694 : xat rLawX.1 1694 = some (.iconst 2, 0, 0, 0) := by decide +kernel
theorem xl1695 : xat rLawX.1 1695 = some (.iadd, 0, 0, 0) := by decide +kernel
theorem xl1696 : xat rLawX.1 1696 = some (.iaload, 0, 0, 0) := by decide +kernel
theorem xl1697 : xat rLawX.1 1697 = some (.invokevirtual 203, 180, 3, 11) := by decide +kernel
theorem xl1700 : xat rLawX.1 1700 = some (.pop, 0, 0, 0) := by decide +kernel
theorem xl1701 : xat rLawX.1 1701 = some (.aload_n 2, 0, 0, 0) := by decide +kernel
theorem xl1702 : xat rLawX.1 1702 = some (.aload_n 0, 0, 0, 0) := by decide +kernel
theorem xl1703 : xat rLawX.1 1703 = some (.iload_n 3, 0, 0, 0) := by decide +kernel
theorem xl1704 : xat rLawX.1 1704 = some (.iconst 1, 0, 0, 0) := by decide +kernel
theorem xl1705 : xat rLawX.1 1705 = some (.iadd, 0, 0, 0) := by decide +kernel
theorem xl1706 : xat rLawX.1 1706 = some (.iaload, 0, 0, 0) := by decide +kernel
theorem xl1707 : xat rLawX.1 1707 = some (.aload_n 0, 0, 0, 0) := by decide +kernel
theorem xl1708 : xat rLawX.1 1708 = some (.iload_n 3, 0, 0, 0) := by decide +kernel
theorem xl1709 : xat rLawX.1 1709 = some (.iconst 2, 0, 0, 0) := by decide +kernel
theorem xl1710 : xat rLawX.1 1710 = some (.iadd, 0, 0, 0) := by decide +kernel
theorem xl1711 : xat rLawX.1 1711 = some (.iaload, 0, 0, 0) := by decide +kernel
theorem xl1712 : xat rLawX.1 1712 = some (.invokevirtual 206, 322, 3, 12) := by decide +kernel
theorem xl1715 : xat rLawX.1 1715 = some (.pop, 0, 0, 0) := by decide +kernel
theorem xl1716 : xat rLawX.1 1716 = some (.goto 498, 2214, 0, 0) := by decide +kernel
theorem xl1719 : xat rLawX.1 1719 = some (.aload_n 1, 0, 0, 0) := by decide +kernel
theorem xl1720 : xat rLawX.1 1720 = some (.aload_n 0, 0, 0, 0) := by decide +kernel
theorem xl1721 : xat rLawX.1 1721 = some (.iload_n 3, 0, 0, 0) := by decide +kernel
theorem xl1722 : xat rLawX.1 1722 = some (.iconst 1, 0, 0, 0) := by decide +kernel
theorem xl1723 : xat rLawX.1 1723 = some (.iadd, 0, 0, 0) := by decide +kernel
theorem xl1724 : xat rLawX.1 1724 = some (.iaload, 0, 0, 0) := by decide +kernel
theorem xl1725 : xat rLawX.1 1725 = some (.aload_n 0, 0, 0, 0) := by decide +kernel
theorem xl1726 : xat rLawX.1 1726 = some (.iload_n 3, 0, 0, 0) := by decide +kernel
theorem xl1727 : xat rLawX.1 1727 = some (.iconst 2, 0, 0, 0) := by decide +kernel
theorem xl1728 : xat rLawX.1 1728 = some (.iadd, 0, 0, 0) := by decide +kernel
theorem xl1729 : xat rLawX.1 1729 = some (.iaload, 0, 0, 0) := by decide +kernel
theorem xl1730 : xat rLawX.1 1730 = some (.invokevirtual 207, 181, 3, 11) := by decide +kernel
theorem xl1733 : xat rLawX.1 1733 = some (.pop, 0, 0, 0) := by decide +kernel
theorem xl1734 : xat rLawX.1 1734 = some (.aload_n 2, 0, 0, 0) := by decide +kernel
theorem xl1735 : xat rLawX.1 1735 = some (.aload_n 0, 0, 0, 0) := by decide +kernel
theorem xl1736 : xat rLawX.1 1736 = some (.iload_n 3, 0, 0, 0) := by decide +kernel
theorem xl1737 : xat rLawX.1 1737 = some (.iconst 1, 0, 0, 0) := by decide +kernel
theorem xl1738 : xat rLawX.1 1738 = some (.iadd, 0, 0, 0) := by decide +kernel
theorem xl1739 : xat rLawX.1 1739 = some (.iaload, 0, 0, 0) := by decide +kernel
theorem xl1740 : xat rLawX.1 1740 = some (.aload_n 0, 0, 0, 0) := by decide +kernel
theorem xl1741 : xat rLawX.1 1741 = some (.iload_n 3, 0, 0, 0) := by decide +kernel
theorem xl1742 : xat rLawX.1 1742 = some (.iconst 2, 0, 0, 0) := by decide +kernel
theorem xl1743 : xat rLawX.1 1743 = some (.iadd, 0, 0, 0) := by decide +kernel
theorem xl1744 : xat rLawX.1 1744 = some (.iaload, 0, 0, 0) := by decide +kernel
theorem xl1745 : xat rLawX.1 1745 = some (.invokevirtual 210, 323, 3, 12) := by decide +kernel
theorem xl1748 : xat rLawX.1 1748 = some (.pop, 0, 0, 0) := by decide +kernel
theorem xl1749 : xat rLawX.1 1749 = some (.goto 465, 2214, 0, 0) := by decide +kernel
theorem xl1752 : xat rLawX.1 1752 = some (.aload_n 1, 0, 0, 0) := by decide +kernel
theorem xl1753 : xat rLawX.1 1753 = some (.aload_n 0, 0, 0, 0) := by decide +kernel
theorem xl1754 : xat rLawX.1 1754 = some (.iload_n 3, 0, 0, 0) := by decide +kernel
theorem xl1755 : xat rLawX.1 1755 = some (.iconst 1, 0, 0, 0) := by decide +kernel
theorem xl1756 : xat rLawX.1 1756 = some (.iadd, 0, 0, 0) := by decide +kernel
theorem xl1757 : xat rLawX.1 1757 = some (.iaload, 0, 0, 0) := by decide +kernel
theorem xl1758 : xat rLawX.1 1758 = some (.aload_n 0, 0, 0, 0) := by decide +kernel
theorem xl1759 : xat rLawX.1 1759 = some (.iload_n 3, 0, 0, 0) := by decide +kernel
theorem xl1760 : xat rLawX.1 1760 = some (.iconst 2, 0, 0, 0) := by decide +kernel
theorem xl1761 : xat rLawX.1 1761 = some (.iadd, 0, 0, 0) := by decide +kernel
theorem xl1762 : xat rLawX.1 1762 = some (.iaload, 0, 0, 0) := by decide +kernel
theorem xl1763 : xat rLawX.1 1763 = some (.invokevirtual 211, 183, 3, 11) := by decide +kernel
theorem xl1766 : xat rLawX.1 1766 = some (.pop, 0, 0, 0) := by decide +kernel
theorem xl1767 : xat rLawX.1 1767 = some (.aload_n 2, 0, 0, 0) := by decide +kernel
theorem xl1768 : xat rLawX.1 1768 = some (.aload_n 0, 0, 0, 0) := by decide +kernel
theorem xl1769 : xat rLawX.1 1769 = some (.iload_n 3, 0, 0, 0) := by decide +kernel
theorem xl1770 : xat rLawX.1 1770 = some (.iconst 1, 0, 0, 0) := by decide +kernel
theorem xl1771 : xat rLawX.1 1771 = some (.iadd, 0, 0, 0) := by decide +kernel
theorem xl1772 : xat rLawX.1 1772 = some (.iaload, 0, 0, 0) := by decide +kernel
theorem xl1773 : xat rLawX.1 1773 = some (.aload_n 0, 0, 0, 0) := by decide +kernel
theorem xl1774 : xat rLawX.1 1774 = some (.iload_n 3, 0, 0, 0) := by decide +kernel
theorem xl1775 : xat rLawX.1 1775 = some (.iconst 2, 0, 0, 0) := by decide +kernel
theorem xl1776 : xat rLawX.1 1776 = some (.iadd, 0, 0, 0) := by decide +kernel
theorem xl1777 : xat rLawX.1 1777 = some (.iaload, 0, 0, 0) := by decide +kernel
theorem xl1778 : xat rLawX.1 1778 = some (.invokevirtual 214, 324, 3, 12) := by decide +kernel
theorem xl1781 : xat rLawX.1 1781 = some (.pop, 0, 0, 0) := by decide +kernel
theorem xl1782 : xat rLawX.1 1782 = some (.goto 432, 2214, 0, 0) := by decide +kernel
theorem xl1785 : xat rLawX.1 1785 = some (.aload_n 1, 0, 0, 0) := by decide +kernel
theorem xl1786 : xat rLawX.1 1786 = some (.aload_n 0, 0, 0, 0) := by decide +kernel
theorem xl1787 : xat rLawX.1 1787 = some (.iload_n 3, 0, 0, 0) := by decide +kernel
theorem xl1788 : xat rLawX.1 1788 = some (.iconst 1, 0, 0, 0) := by decide +kernel
theorem xl1789 : xat rLawX.1 1789 = some (.iadd, 0, 0, 0) := by decide +kernel
theorem xl1790 : xat rLawX.1 1790 = some (.iaload, 0, 0, 0) := by decide +kernel
theorem xl1791 : xat rLawX.1 1791 = some (.invokevirtual 215, 184, 2, 11) := by decide +kernel
theorem xl1794 : xat rLawX.1 1794 = some (.pop, 0, 0, 0) := by decide +kernel
theorem xl1795 : xat rLawX.1 1795 = some (.aload_n 2, 0, 0, 0) := by decide +kernel
theorem xl1796 : xat rLawX.1 1796 = some (.aload_n 0, 0, 0, 0) := by decide +kernel
theorem xl1797 : xat rLawX.1 1797 = some (.iload_n 3, 0, 0, 0) := by decide +kernel
theorem xl1798 : xat rLawX.1 1798 = some (.iconst 1, 0, 0, 0) := by decide +kernel
theorem xl1799 : xat rLawX.1 1799 = some (.iadd, 0, 0, 0) := by decide +kernel
theorem xl1800 : xat rLawX.1 1800 = some (.iaload, 0, 0, 0) := by decide +kernel
theorem xl1801 : xat rLawX.1 1801 = some (.invokevirtual 218, 326, 2, 12) := by decide +kernel
theorem xl1804 : xat rLawX.1 1804 = some (.pop, 0, 0, 0) := by decide +kernel
theorem xl1805 : xat rLawX.1 1805 = some (.goto 409, 2214, 0, 0) := by decide +kernel
theorem xl1808 : xat rLawX.1 1808 = some (.aload_n 1, 0, 0, 0) := by decide +kernel
theorem xl1809 : xat rLawX.1 1809 = some (.aload_n 0, 0, 0, 0) := by decide +kernel
theorem xl1810 : xat rLawX.1 1810 = some (.iload_n 3, 0, 0, 0) := by decide +kernel
theorem xl1811 : xat rLawX.1 1811 = some (.iconst 1, 0, 0, 0) := by decide +kernel
theorem xl1812 : xat rLawX.1 1812 = some (.iadd, 0, 0, 0) := by decide +kernel
theorem xl1813 : xat rLawX.1 1813 = some (.iaload, 0, 0, 0) := by decide +kernel
theorem xl1814 : xat rLawX.1 1814 = some (.invokevirtual 219, 185, 2, 11) := by decide +kernel
theorem xl1817 : xat rLawX.1 1817 = some (.pop, 0, 0, 0) := by decide +kernel
theorem xl1818 : xat rLawX.1 1818 = some (.aload_n 2, 0, 0, 0) := by decide +kernel
theorem xl1819 : xat rLawX.1 1819 = some (.aload_n 0, 0, 0, 0) := by decide +kernel
theorem xl1820 : xat rLawX.1 1820 = some (.iload_n 3, 0, 0, 0) := by decide +kernel
theorem xl1821 : xat rLawX.1 1821 = some (.iconst 1, 0, 0, 0) := by decide +kernel
theorem xl1822 : xat rLawX.1 1822 = some (.iadd, 0, 0, 0) := by decide +kernel
theorem xl1823 : xat rLawX.1 1823 = some (.iaload, 0, 0, 0) := by decide +kernel
theorem xl1824 : xat rLawX.1 1824 = some (.invokevirtual 222, 327, 2, 12) := by decide +kernel
theorem xl1827 : xat rLawX.1 1827 = some (.pop, 0, 0, 0) := by decide +kernel
theorem xl1828 : xat rLawX.1 1828 = some (.goto 386, 2214, 0, 0) := by decide +kernel
theorem xl1831 : xat rLawX.1 1831 = some (.aload_n 1, 0, 0, 0) := by decide +kernel
theorem xl1832 : xat rLawX.1 1832 = some (.aload_n 0, 0, 0, 0) := by decide +kernel
theorem xl1833 : xat rLawX.1 1833 = some (.iload_n 3, 0, 0, 0) := by decide +kernel
theorem xl1834 : xat rLawX.1 1834 = some (.iconst 1, 0, 0, 0) := by decide +kernel
theorem xl1835 : xat rLawX.1 1835 = some (.iadd, 0, 0, 0) := by decide +kernel
theorem xl1836 : xat rLawX.1 1836 = some (.iaload, 0, 0, 0) := by decide +kernel
theorem xl1837 : xat rLawX.1 1837 = some (.aload_n 0, 0, 0, 0) := by decide +kernel
theorem xl1838 : xat rLawX.1 1838 = some (.iload_n 3, 0, 0, 0) := by decide +kernel
theorem xl1839 : xat rLawX.1 1839 = some (.iconst 2, 0, 0, 0) := by decide +kernel
theorem xl1840 : xat rLawX.1 1840 = some (.iadd, 0, 0, 0) := by decide +kernel
theorem xl1841 : xat rLawX.1 1841 = some (.iaload, 0, 0, 0) := by decide +kernel
theorem xl1842 : xat rLawX.1 1842 = some (.aload_n 0, 0, 0, 0) := by decide +kernel
theorem xl1843 : xat rLawX.1 1843 = some (.iload_n 3, 0, 0, 0) := by decide +kernel
theorem xl1844 : xat rLawX.1 1844 = some (.iconst 3, 0, 0, 0) := by decide +kernel
theorem xl1845 : xat rLawX.1 1845 = some (.iadd, 0, 0, 0) := by decide +kernel
theorem xl1846 : xat rLawX.1 1846 = some (.iaload, 0, 0, 0) := by decide +kernel
theorem xl1847 : xat rLawX.1 1847 = some (.invokevirtual 223, 187, 4, 11) := by decide +kernel
theorem xl1850 : xat rLawX.1 1850 = some (.pop, 0, 0, 0) := by decide +kernel
theorem xl1851 : xat rLawX.1 1851 = some (.aload_n 2, 0, 0, 0) := by decide +kernel
theorem xl1852 : xat rLawX.1 1852 = some (.aload_n 0, 0, 0, 0) := by decide +kernel
theorem xl1853 : xat rLawX.1 1853 = some (.iload_n 3, 0, 0, 0) := by decide +kernel
theorem xl1854 : xat rLawX.1 1854 = some (.iconst 1, 0, 0, 0) := by decide +kernel
theorem xl1855 : xat rLawX.1 1855 = some (.iadd, 0, 0, 0) := by decide +kernel
theorem xl1856 : xat rLawX.1 1856 = some (.iaload, 0, 0, 0) := by decide +kernel
theorem xl1857 : xat rLawX.1 1857 = some (.aload_n 0, 0, 0, 0) := by decide +kernel
theorem xl1858 : xat rLawX.1 1858 = some (.iload_n 3, 0, 0, 0) := by decide +kernel
theorem xl1859 : xat rLawX.1 1859 = some (.iconst 2, 0, 0, 0) := by decide +kernel
theorem xl1860 : xat rLawX.1 1860 = some (.iadd, 0, 0, 0) := by decide +kernel
theorem xl1861 : xat rLawX.1 1861 = some (.iaload, 0, 0, 0) := by decide +kernel
theorem xl1862 : xat rLawX.1 1862 = some (.aload_n 0, 0, 0, 0) := by decide +kernel
theorem xl1863 : xat rLawX.1 1863 = some (.iload_n 3, 0, 0, 0) := by decide +kernel
theorem xl1864 : xat rLawX.1 1864 = some (.iconst 3, 0, 0, 0) := by decide +kernel
theorem xl1865 : xat rLawX.1 1865 = some (.iadd, 0, 0, 0) := by decide +kernel
theorem xl1866 : xat rLawX.1 1866 = some (.iaload, 0, 0, 0) := by decide +kernel
theorem xl1867 : xat rLawX.1 1867 = some (.invokevirtual 226, 332, 4, 12) := by decide +kernel
theorem xl1870 : xat rLawX.1 1870 = some (.pop, 0, 0, 0) := by decide +kernel
theorem xl1871 : xat rLawX.1 1871 = some (.goto 343, 2214, 0, 0) := by decide +kernel
theorem xl1874 : xat rLawX.1 1874 = some (.aload_n 1, 0, 0, 0) := by decide +kernel
theorem xl1875 : xat rLawX.1 1875 = some (.aload_n 0, 0, 0, 0) := by decide +kernel
theorem xl1876 : xat rLawX.1 1876 = some (.iload_n 3, 0, 0, 0) := by decide +kernel
theorem xl1877 : xat rLawX.1 1877 = some (.iconst 1, 0, 0, 0) := by decide +kernel
theorem xl1878 : xat rLawX.1 1878 = some (.iadd, 0, 0, 0) := by decide +kernel
theorem xl1879 : xat rLawX.1 1879 = some (.iaload, 0, 0, 0) := by decide +kernel
theorem xl1880 : xat rLawX.1 1880 = some (.aload_n 0, 0, 0, 0) := by decide +kernel
theorem xl1881 : xat rLawX.1 1881 = some (.iload_n 3, 0, 0, 0) := by decide +kernel
theorem xl1882 : xat rLawX.1 1882 = some (.iconst 2, 0, 0, 0) := by decide +kernel
theorem xl1883 : xat rLawX.1 1883 = some (.iadd, 0, 0, 0) := by decide +kernel
theorem xl1884 : xat rLawX.1 1884 = some (.iaload, 0, 0, 0) := by decide +kernel
theorem xl1885 : xat rLawX.1 1885 = some (.aload_n 0, 0, 0, 0) := by decide +kernel
theorem xl1886 : xat rLawX.1 1886 = some (.iload_n 3, 0, 0, 0) := by decide +kernel
theorem xl1887 : xat rLawX.1 1887 = some (.iconst 3, 0, 0, 0) := by decide +kernel
theorem xl1888 : xat rLawX.1 1888 = some (.iadd, 0, 0, 0) := by decide +kernel
theorem xl1889 : xat rLawX.1 1889 = some (.iaload, 0, 0, 0) := by decide +kernel
theorem xl1890 : xat rLawX.1 1890 = some (.aload_n 0, 0, 0, 0) := by decide +kernel
theorem xl1891 : xat rLawX.1 1891 = some (.iload_n 3, 0, 0, 0) := by decide +kernel
theorem xl1892 : xat rLawX.1 1892 = some (.iconst 4, 0, 0, 0) := by decide +kernel
theorem xl1893 : xat rLawX.1 1893 = some (.iadd, 0, 0, 0) := by decide +kernel
theorem xl1894 : xat rLawX.1 1894 = some (.iaload, 0, 0, 0) := by decide +kernel
theorem xl1895 : xat rLawX.1 1895 = some (.invokevirtual 227, 188, 5, 11) := by decide +kernel
theorem xl1898 : xat rLawX.1 1898 = some (.pop, 0, 0, 0) := by decide +kernel
theorem xl1899 : xat rLawX.1 1899 = some (.aload_n 2, 0, 0, 0) := by decide +kernel
theorem xl1900 : xat rLawX.1 1900 = some (.aload_n 0, 0, 0, 0) := by decide +kernel
theorem xl1901 : xat rLawX.1 1901 = some (.iload_n 3, 0, 0, 0) := by decide +kernel
theorem xl1902 : xat rLawX.1 1902 = some (.iconst 1, 0, 0, 0) := by decide +kernel
theorem xl1903 : xat rLawX.1 1903 = some (.iadd, 0, 0, 0) := by decide +kernel
theorem xl1904 : xat rLawX.1 1904 = some (.iaload, 0, 0, 0) := by decide +kernel
theorem xl1905 : xat rLawX.1 1905 = some (.aload_n 0, 0, 0, 0) := by decide +kernel
theorem xl1906 : xat rLawX.1 1906 = some (.iload_n 3, 0, 0, 0) := by decide +kernel
theorem xl1907 : xat rLawX.1 1907 = some (.iconst 2, 0, 0, 0) := by decide +kernel
theorem xl1908 : xat rLawX.1 1908 = some (.iadd, 0, 0, 0) := by decide +kernel
theorem xl1909 : xat rLawX.1 1909 = some (.iaload, 0, 0, 0) := by decide +kernel
theorem xl1910 : xat rLawX.1 1910 = some (.aload_n 0, 0, 0, 0) := by decide +kernel
theorem xl1911 : xat rLawX.1 1911 = some (.iload_n 3, 0, 0, 0) := by decide +kernel
theorem xl1912 : xat rLawX.1 1912 = some (.iconst 3, 0, 0, 0) := by decide +kernel
theorem xl1913 : xat rLawX.1 1913 = some (.iadd, 0, 0, 0) := by decide +kernel
theorem xl1914 : xat rLawX.1 1914 = some (.iaload, 0, 0, 0) := by decide +kernel
theorem xl1915 : xat rLawX.1 1915 = some (.aload_n 0, 0, 0, 0) := by decide +kernel
theorem xl1916 : xat rLawX.1 1916 = some (.iload_n 3, 0, 0, 0) := by decide +kernel
theorem xl1917 : xat rLawX.1 1917 = some (.iconst 4, 0, 0, 0) := by decide +kernel
theorem xl1918 : xat rLawX.1 1918 = some (.iadd, 0, 0, 0) := by decide +kernel
theorem xl1919 : xat rLawX.1 1919 = some (.iaload, 0, 0, 0) := by decide +kernel
theorem xl1920 : xat rLawX.1 1920 = some (.invokevirtual 231, 333, 5, 12) := by decide +kernel
theorem xl1923 : xat rLawX.1 1923 = some (.pop, 0, 0, 0) := by decide +kernel
theorem xl1924 : xat rLawX.1 1924 = some (.goto 290, 2214, 0, 0) := by decide +kernel
theorem xl1927 : xat rLawX.1 1927 = some (.aload_n 1, 0, 0, 0) := by decide +kernel
theorem xl1928 : xat rLawX.1 1928 = some (.aload_n 0, 0, 0, 0) := by decide +kernel
theorem xl1929 : xat rLawX.1 1929 = some (.iload_n 3, 0, 0, 0) := by decide +kernel
theorem xl1930 : xat rLawX.1 1930 = some (.iconst 1, 0, 0, 0) := by decide +kernel
theorem xl1931 : xat rLawX.1 1931 = some (.iadd, 0, 0, 0) := by decide +kernel
theorem xl1932 : xat rLawX.1 1932 = some (.iaload, 0, 0, 0) := by decide +kernel
theorem xl1933 : xat rLawX.1 1933 = some (.aload_n 0, 0, 0, 0) := by decide +kernel
theorem xl1934 : xat rLawX.1 1934 = some (.iload_n 3, 0, 0, 0) := by decide +kernel
theorem xl1935 : xat rLawX.1 1935 = some (.iconst 2, 0, 0, 0) := by decide +kernel
theorem xl1936 : xat rLawX.1 1936 = some (.iadd, 0, 0, 0) := by decide +kernel
theorem xl1937 : xat rLawX.1 1937 = some (.iaload, 0, 0, 0) := by decide +kernel
theorem xl1938 : xat rLawX.1 1938 = some (.invokevirtual 232, 189, 3, 11) := by decide +kernel
theorem xl1941 : xat rLawX.1 1941 = some (.pop, 0, 0, 0) := by decide +kernel
theorem xl1942 : xat rLawX.1 1942 = some (.aload_n 2, 0, 0, 0) := by decide +kernel
theorem xl1943 : xat rLawX.1 1943 = some (.aload_n 0, 0, 0, 0) := by decide +kernel
theorem xl1944 : xat rLawX.1 1944 = some (.iload_n 3, 0, 0, 0) := by decide +kernel
theorem xl1945 : xat rLawX.1 1945 = some (.iconst 1, 0, 0, 0) := by decide +kernel
theorem xl1946 : xat rLawX.1 1946 = some (.iadd, 0, 0, 0) := by decide +kernel
theorem xl1947 : xat rLawX.1 1947 = some (.iaload, 0, 0, 0) := by decide +kernel
theorem xl1948 : xat rLawX.1 1948 = some (.aload_n 0, 0, 0, 0) := by decide +kernel
theorem xl1949 : xat rLawX.1 1949 = some (.iload_n 3, 0, 0, 0) := by decide +kernel
theorem xl1950 : xat rLawX.1 1950 = some (.iconst 2, 0, 0, 0) := by decide +kernel
theorem xl1951 : xat rLawX.1 1951 = some (.iadd, 0, 0, 0) := by decide +kernel
theorem xl1952 : xat rLawX.1 1952 = some (.iaload, 0, 0, 0) := by decide +kernel
theorem xl1953 : xat rLawX.1 1953 = some (.invokevirtual 235, 334, 3, 12) := by decide +kernel
theorem xl1956 : xat rLawX.1 1956 = some (.pop, 0, 0, 0) := by decide +kernel
theorem xl1957 : xat rLawX.1 1957 = some (.goto 257, 2214, 0, 0) := by decide +kernel
theorem xl1960 : xat rLawX.1 1960 = some (.aload_n 1, 0, 0, 0) := by decide +kernel
theorem xl1961 : xat rLawX.1 1961 = some (.aload_n 0, 0, 0, 0) := by decide +kernel
theorem xl1962 : xat rLawX.1 1962 = some (.iload_n 3, 0, 0, 0) := by decide +kernel
theorem xl1963 : xat rLawX.1 1963 = some (.iconst 1, 0, 0, 0) := by decide +kernel
theorem xl1964 : xat rLawX.1 1964 = some (.iadd, 0, 0, 0) := by decide +kernel
theorem xl1965 : xat rLawX.1 1965 = some (.iaload, 0, 0, 0) := by decide +kernel
theorem xl1966 : xat rLawX.1 1966 = some (.aload_n 0, 0, 0, 0) := by decide +kernel
theorem xl1967 : xat rLawX.1 1967 = some (.iload_n 3, 0, 0, 0) := by decide +kernel
theorem xl1968 : xat rLawX.1 1968 = some (.iconst 2, 0, 0, 0) := by decide +kernel
theorem xl1969 : xat rLawX.1 1969 = some (.iadd, 0, 0, 0) := by decide +kernel
theorem xl1970 : xat rLawX.1 1970 = some (.iaload, 0, 0, 0) := by decide +kernel
theorem xl1971 : xat rLawX.1 1971 = some (.aload_n 0, 0, 0, 0) := by decide +kernel
theorem xl1972 : xat rLawX.1 1972 = some (.iload_n 3, 0, 0, 0) := by decide +kernel
theorem xl1973 : xat rLawX.1 1973 = some (.iconst 3, 0, 0, 0) := by decide +kernel
theorem xl1974 : xat rLawX.1 1974 = some (.iadd, 0, 0, 0) := by decide +kernel
theorem xl1975 : xat rLawX.1 1975 = some (.iaload, 0, 0, 0) := by decide +kernel
theorem xl1976 : xat rLawX.1 1976 = some (.invokevirtual 236, 191, 4, 11) := by decide +kernel
theorem xl1979 : xat rLawX.1 1979 = some (.pop, 0, 0, 0) := by decide +kernel
theorem xl1980 : xat rLawX.1 1980 = some (.aload_n 2, 0, 0, 0) := by decide +kernel
theorem xl1981 : xat rLawX.1 1981 = some (.aload_n 0, 0, 0, 0) := by decide +kernel
theorem xl1982 : xat rLawX.1 1982 = some (.iload_n 3, 0, 0, 0) := by decide +kernel
theorem xl1983 : xat rLawX.1 1983 = some (.iconst 1, 0, 0, 0) := by decide +kernel
theorem xl1984 : xat rLawX.1 1984 = some (.iadd, 0, 0, 0) := by decide +kernel
theorem xl1985 : xat rLawX.1 1985 = some (.iaload, 0, 0, 0) := by decide +kernel
theorem xl1986 : xat rLawX.1 1986 = some (.aload_n 0, 0, 0, 0) := by decide +kernel
theorem xl1987 : xat rLawX.1 1987 = some (.iload_n 3, 0, 0, 0) := by decide +kernel
theorem xl1988 : xat rLawX.1 1988 = some (.iconst 2, 0, 0, 0) := by decide +kernel
theorem xl1989 : xat rLawX.1 1989 = some (.iadd, 0, 0, 0) := by decide +kernel
theorem xl1990 : xat rLawX.1 1990 = some (.iaload, 0, 0, 0) := by decide +kernel
theorem xl1991 : xat rLawX.1 1991 = some (.aload_n 0, 0, 0, 0) := by decide +kernel
theorem xl1992 : xat rLawX.1 1992 = some (.iload_n 3, 0, 0, 0) := by decide +kernel
theorem xl1993 : xat rLawX.1 1993 = some (.iconst 3, 0, 0, 0) := by decide +kernel
theorem xl1994 : xat rLawX.1 1994 = some (.iadd, 0, 0, 0) := by decide +kernel
theorem xl1995 : xat rLawX.1 1995 = some (.iaload, 0, 0, 0) := by decide +kernel
theorem xl1996 : xat rLawX.1 1996 = some (.invokevirtual 239, 335, 4, 12) := by decide +kernel
theorem xl1999 : xat rLawX.1 1999 = some (.pop, 0, 0, 0) := by decide +kernel
theorem xl2000 : xat rLawX.1 2000 = some (.goto 214, 2214, 0, 0) := by decide +kernel
theorem xl2003 : xat rLawX.1 2003 = some (.aload_n 1, 0, 0, 0) := by decide +kernel
theorem xl2004 : xat rLawX.1 2004 = some (.aload_n 0, 0, 0, 0) := by decide +kernel
theorem xl2005 : xat rLawX.1 2005 = some (.iload_n 3, 0, 0, 0) := by decide +kernel
theorem xl2006 : xat rLawX.1 2006 = some (.iconst 1, 0, 0, 0) := by decide +kernel
theorem xl2007 : xat rLawX.1 2007 = some (.iadd, 0, 0, 0) := by decide +kernel
theorem xl2008 : xat rLawX.1 2008 = some (.iaload, 0, 0, 0) := by decide +kernel
theorem xl2009 : xat rLawX.1 2009 = some (.aload_n 0, 0, 0, 0) := by decide +kernel
theorem xl2010 : xat rLawX.1 2010 = some (.iload_n 3, 0, 0, 0) := by decide +kernel
theorem xl2011 : xat rLawX.1 2011 = some (.iconst 2, 0, 0, 0) := by decide +kernel
theorem xl2012 : xat rLawX.1 2012 = some (.iadd, 0, 0, 0) := by decide +kernel
theorem xl2013 : xat rLawX.1 2013 = some (.iaload, 0, 0, 0) := by decide +kernel
theorem xl2014 : xat rLawX.1 2014 = some (.aload_n 0, 0, 0, 0) := by decide +kernel
theorem xl2015 : xat rLawX.1 2015 = some (.iload_n 3, 0, 0, 0) := by decide +kernel
theorem xl2016 : xat rLawX.1 2016 = some (.iconst 3, 0, 0, 0) := by decide +kernel
theorem xl2017 : xat rLawX.1 2017 = some (.iadd, 0, 0, 0) := by decide +kernel
theorem xl2018 : xat rLawX.1 2018 = some (.iaload, 0, 0, 0) := by decide +kernel
theorem xl2019 : xat rLawX.1 2019 = some (.aload_n 0, 0, 0, 0) := by decide +kernel
theorem xl2020 : xat rLawX.1 2020 = some (.iload_n 3, 0, 0, 0) := by decide +kernel
theorem xl2021 : xat rLawX.1 2021 = some (.iconst 4, 0, 0, 0) := by decide +kernel
theorem xl2022 : xat rLawX.1 2022 = some (.iadd, 0, 0, 0) := by decide +kernel
theorem xl2023 : xat rLawX.1 2023 = some (.iaload, 0, 0, 0) := by decide +kernel
theorem xl2024 : xat rLawX.1 2024 = some (.aload_n 0, 0, 0, 0) := by decide +kernel
theorem xl2025 : xat rLawX.1 2025 = some (.iload_n 3, 0, 0, 0) := by decide +kernel
theorem xl2026 : xat rLawX.1 2026 = some (.iconst 5, 0, 0, 0) := by decide +kernel
theorem xl2027 : xat rLawX.1 2027 = some (.iadd, 0, 0, 0) := by decide +kernel
theorem xl2028 : xat rLawX.1 2028 = some (.iaload, 0, 0, 0) := by decide +kernel
theorem xl2029 : xat rLawX.1 2029 = some (.invokevirtual 240, 192, 6, 11) := by decide +kernel
theorem xl2032 : xat rLawX.1 2032 = some (.pop2, 0, 0, 0) := by decide +kernel
theorem xl2033 : xat rLawX.1 2033 = some (.aload_n 2, 0, 0, 0) := by decide +kernel
theorem xl2034 : xat rLawX.1 2034 = some (.aload_n 0, 0, 0, 0) := by decide +kernel
theorem xl2035 : xat rLawX.1 2035 = some (.iload_n 3, 0, 0, 0) := by decide +kernel
theorem xl2036 : xat rLawX.1 2036 = some (.iconst 1, 0, 0, 0) := by decide +kernel
theorem xl2037 : xat rLawX.1 2037 = some (.iadd, 0, 0, 0) := by decide +kernel
theorem xl2038 : xat rLawX.1 2038 = some (.iaload, 0, 0, 0) := by decide +kernel
theorem xl2039 : xat rLawX.1 2039 = some (.aload_n 0, 0, 0, 0) := by decide +kernel
theorem xl2040 : xat rLawX.1 2040 = some (.iload_n 3, 0, 0, 0) := by decide +kernel
theorem xl2041 : xat rLawX.1 2041 = some (.iconst 2, 0, 0, 0) := by decide +kernel
theorem xl2042 : xat rLawX.1 2042 = some (.iadd, 0, 0, 0) := by decide +kernel
theorem xl2043 : xat rLawX.1 2043 = some (.iaload, 0, 0, 0) := by decide +kernel
theorem xl2044 : xat rLawX.1 2044 = some (.aload_n 0, 0, 0, 0) := by decide +kernel
theorem xl2045 : xat rLawX.1 2045 = some (.iload_n 3, 0, 0, 0) := by decide +kernel
theorem xl2046 : xat rLawX.1 2046 = some (.iconst 3, 0, 0, 0) := by decide +kernel
theorem xl2047 : xat rLawX.1 2047 = some (.iadd, 0, 0, 0) := by decide +kernel
theorem xl2048 : xat rLawX.1 2048 = some (.iaload, 0, 0, 0) := by decide +kernel
theorem xl2049 : xat rLawX.1 2049 = some (.aload_n 0, 0, 0, 0) := by decide +kernel
theorem xl2050 : xat rLawX.1 2050 = some (.iload_n 3, 0, 0, 0) := by decide +kernel
theorem xl2051 : xat rLawX.1 2051 = some (.iconst 4, 0, 0, 0) := by decide +kernel
theorem xl2052 : xat rLawX.1 2052 = some (.iadd, 0, 0, 0) := by decide +kernel
theorem xl2053 : xat rLawX.1 2053 = some (.iaload, 0, 0, 0) := by decide +kernel
theorem xl2054 : xat rLawX.1 2054 = some (.aload_n 0, 0, 0, 0) := by decide +kernel
theorem xl2055 : xat rLawX.1 2055 = some (.iload_n 3, 0, 0, 0) := by decide +kernel
theorem xl2056 : xat rLawX.1 2056 = some (.iconst 5, 0, 0, 0) := by decide +kernel
theorem xl2057 : xat rLawX.1 2057 = some (.iadd, 0, 0, 0) := by decide +kernel
theorem xl2058 : xat rLawX.1 2058 = some (.iaload, 0, 0, 0) := by decide +kernel
theorem xl2059 : xat rLawX.1 2059 = some (.invokevirtual 244, 336, 6, 12) := by decide +kernel
theorem xl2062 : xat rLawX.1 2062 = some (.pop2, 0, 0, 0) := by decide +kernel
theorem xl2063 : xat rLawX.1 2063 = some (.goto 151, 2214, 0, 0) := by decide +kernel
theorem xl2066 : xat rLawX.1 2066 = some (.aload_n 1, 0, 0, 0) := by decide +kernel
theorem xl2067 : xat rLawX.1 2067 = some (.aload_n 0, 0, 0, 0) := by decide +kernel
theorem xl2068 : xat rLawX.1 2068 = some (.iload_n 3, 0, 0, 0) := by decide +kernel
theorem xl2069 : xat rLawX.1 2069 = some (.iconst 1, 0, 0, 0) := by decide +kernel
theorem xl2070 : xat rLawX.1 2070 = some (.iadd, 0, 0, 0) := by decide +kernel
theorem xl2071 : xat rLawX.1 2071 = some (.iaload, 0, 0, 0) := by decide +kernel
theorem xl2072 : xat rLawX.1 2072 = some (.aload_n 0, 0, 0, 0) := by decide +kernel
theorem xl2073 : xat rLawX.1 2073 = some (.iload_n 3, 0, 0, 0) := by decide +kernel
theorem xl2074 : xat rLawX.1 2074 = some (.iconst 2, 0, 0, 0) := by decide +kernel
theorem xl2075 : xat rLawX.1 2075 = some (.iadd, 0, 0, 0) := by decide +kernel
theorem xl2076 : xat rLawX.1 2076 = some (.iaload, 0, 0, 0) := by decide +kernel
theorem xl2077 : xat rLawX.1 2077 = some (.aload_n 0, 0, 0, 0) := by decide +kernel
theorem xl2078 : xat rLawX.1 2078 = some (.iload_n 3, 0, 0, 0) := by decide +kernel
theorem xl2079 : xat rLawX.1 2079 = some (.iconst 3, 0, 0, 0) := by decide +kernel
theorem xl2080 : xat rLawX.1 2080 = some (.iadd, 0, 0, 0) := by decide +kernel
theorem xl2081 : xat rLawX.1 2081 = some (.iaload, 0, 0, 0) := by decide +kernel
theorem xl2082 : xat rLawX.1 2082 = some (.invokevirtual 245, 193, 4, 11) := by decide +kernel
theorem xl2085 : xat rLawX.1 2085 = some (.pop, 0, 0, 0) := by decide +kernel
theorem xl2086 : xat rLawX.1 2086 = some (.aload_n 2, 0, 0, 0) := by decide +kernel
theorem xl2087 : xat rLawX.1 2087 = some (.aload_n 0, 0, 0, 0) := by decide +kernel
theorem xl2088 : xat rLawX.1 2088 = some (.iload_n 3, 0, 0, 0) := by decide +kernel
theorem xl2089 : xat rLawX.1 2089 = some (.iconst 1, 0, 0, 0) := by decide +kernel
theorem xl2090 : xat rLawX.1 2090 = some (.iadd, 0, 0, 0) := by decide +kernel
theorem xl2091 : xat rLawX.1 2091 = some (.iaload, 0, 0, 0) := by decide +kernel
theorem xl2092 : xat rLawX.1 2092 = some (.aload_n 0, 0, 0, 0) := by decide +kernel
theorem xl2093 : xat rLawX.1 2093 = some (.iload_n 3, 0, 0, 0) := by decide +kernel
theorem xl2094 : xat rLawX.1 2094 = some (.iconst 2, 0, 0, 0) := by decide +kernel
theorem xl2095 : xat rLawX.1 2095 = some (.iadd, 0, 0, 0) := by decide +kernel
theorem xl2096 : xat rLawX.1 2096 = some (.iaload, 0, 0, 0) := by decide +kernel
theorem xl2097 : xat rLawX.1 2097 = some (.aload_n 0, 0, 0, 0) := by decide +kernel
theorem xl2098 : xat rLawX.1 2098 = some (.iload_n 3, 0, 0, 0) := by decide +kernel
theorem xl2099 : xat rLawX.1 2099 = some (.iconst 3, 0, 0, 0) := by decide +kernel
theorem xl2100 : xat rLawX.1 2100 = some (.iadd, 0, 0, 0) := by decide +kernel
theorem xl2101 : xat rLawX.1 2101 = some (.iaload, 0, 0, 0) := by decide +kernel
theorem xl2102 : xat rLawX.1 2102 = some (.invokevirtual 248, 337, 4, 12) := by decide +kernel
theorem xl2105 : xat rLawX.1 2105 = some (.pop, 0, 0, 0) := by decide +kernel
theorem xl2106 : xat rLawX.1 2106 = some (.goto 108, 2214, 0, 0) := by decide +kernel
theorem xl2109 : xat rLawX.1 2109 = some (.aload_n 1, 0, 0, 0) := by decide +kernel
theorem xl2110 : xat rLawX.1 2110 = some (.aload_n 0, 0, 0, 0) := by decide +kernel
theorem xl2111 : xat rLawX.1 2111 = some (.iload_n 3, 0, 0, 0) := by decide +kernel
theorem xl2112 : xat rLawX.1 2112 = some (.iconst 1, 0, 0, 0) := by decide +kernel
theorem xl2113 : xat rLawX.1 2113 = some (.iadd, 0, 0, 0) := by decide +kernel
theorem xl2114 : xat rLawX.1 2114 = some (.iaload, 0, 0, 0) := by decide +kernel
theorem xl2115 : xat rLawX.1 2115 = some (.invokevirtual 249, 194, 2, 11) := by decide +kernel
theorem xl2118 : xat rLawX.1 2118 = some (.pop, 0, 0, 0) := by decide +kernel
theorem xl2119 : xat rLawX.1 2119 = some (.aload_n 2, 0, 0, 0) := by decide +kernel
theorem xl2120 : xat rLawX.1 2120 = some (.aload_n 0, 0, 0, 0) := by decide +kernel
theorem xl2121 : xat rLawX.1 2121 = some (.iload_n 3, 0, 0, 0) := by decide +kernel
theorem xl2122 : xat rLawX.1 2122 = some (.iconst 1, 0, 0, 0) := by decide +kernel
theorem xl2123 : xat rLawX.1 2123 = some (.iadd, 0, 0, 0) := by decide +kernel
theorem xl2124 : xat rLawX.1 2124 = some (.iaload, 0, 0, 0) := by decide +kernel
theorem xl2125 : xat rLawX.1 2125 = some (.invokevirtual 252, 346, 2, 12) := by decide +kernel
theorem xl2128 : xat rLawX.1 2128 = some (.pop, 0, 0, 0) := by decide +kernel
theorem xl2129 : xat rLawX.1 2129 = some (.goto 85, 2214, 0, 0) := by decide +kernel
theorem xl2132 : xat rLawX.1 2132 = some (.aload_n 1, 0, 0, 0) := by decide +kernel
theorem xl2133 : xat rLawX.1 2133 = some (.aload_n 0, 0, 0, 0) := by decide +kernel
theorem xl2134 : xat rLawX.1 2134 = some (.iload_n 3, 0, 0, 0) := by decide +kernel
theorem xl2135 : xat rLawX.1 2135 = some (.iconst 1, 0, 0, 0) := by decide +kernel
theorem xl2136 : xat rLawX.1 2136 = some (.iadd, 0, 0, 0) := by decide +kernel
theorem xl2137 : xat rLawX.1 2137 = some (.iaload, 0, 0, 0) := by decide +kernel
theorem xl2138 : xat rLawX.1 2138 = some (.invokevirtual 253, 195, 2, 11) := by decide +kernel
theorem xl2141 : xat rLawX.1 2141 = some (.pop, 0, 0, 0) := by decide +kernel
theorem xl2142 : xat rLawX.1 2142 = some (.aload_n 2, 0, 0, 0) := by decide +kernel
theorem xl2143 : xat rLawX.1 2143 = some (.aload_n 0, 0, 0, 0) := by decide +kernel
theorem xl2144 : xat rLawX.1 2144 = some (.iload_n 3, 0, 0, 0) := by decide +kernel
theorem xl2145 : xat rLawX.1 2145 = some (.iconst 1, 0, 0, 0) := by decide +kernel
theorem xl2146 : xat rLawX.1 2146 = some (.iadd, 0, 0, 0) := by decide +kernel
theorem xl2147 : xat rLawX.1 2147 = some (.iaload, 0, 0, 0) := by decide +kernel
theorem xl2148 : xat rLawX.1 2148 = some (.invokevirtual 256, 347, 2, 12) := by decide +kernel
theorem xl2151 : xat rLawX.1 2151 = some (.pop, 0, 0, 0) := by decide +kernel
theorem xl2152 : xat rLawX.1 2152 = some (.goto 62, 2214, 0, 0) := by decide +kernel
theorem xl2155 : xat rLawX.1 2155 = some (.aload_n 1, 0, 0, 0) := by decide +kernel
theorem xl2156 : xat rLawX.1 2156 = some (.aload_n 0, 0, 0, 0) := by decide +kernel
theorem xl2157 : xat rLawX.1 2157 = some (.iload_n 3, 0, 0, 0) := by decide +kernel
theorem xl2158 : xat rLawX.1 2158 = some (.iconst 1, 0, 0, 0) := by decide +kernel
theorem xl2159 : xat rLawX.1 2159 = some (.iadd, 0, 0, 0) := by decide +kernel
theorem xl2160 : xat rLawX.1 2160 = some (.iaload, 0, 0, 0) := by decide +kernel
theorem xl2161 : xat rLawX.1 2161 = some (.aload_n 0, 0, 0, 0) := by decide +kernel
theorem xl2162 : xat rLawX.1 2162 = some (.iload_n 3, 0, 0, 0) := by decide +kernel
theorem xl2163 : xat rLawX.1 2163 = some (.iconst 2, 0, 0, 0) := by decide +kernel
theorem xl2164 : xat rLawX.1 2164 = some (.iadd, 0, 0, 0) := by decide +kernel
theorem xl2165 : xat rLawX.1 2165 = some (.iaload, 0, 0, 0) := by decide +kernel
theorem xl2166 : xat rLawX.1 2166 = some (.invokevirtual 257, 196, 3, 11) := by decide +kernel
theorem xl2169 : xat rLawX.1 2169 = some (.pop, 0, 0, 0) := by decide +kernel
theorem xl2170 : xat rLawX.1 2170 = some (.aload_n 2, 0, 0, 0) := by decide +kernel
theorem xl2171 : xat rLawX.1 2171 = some (.aload_n 0, 0, 0, 0) := by decide +kernel
theorem xl2172 : xat rLawX.1 2172 = some (.iload_n 3, 0, 0, 0) := by decide +kernel
theorem xl2173 : xat rLawX.1 2173 = some (.iconst 1, 0, 0, 0) := by decide +kernel
theorem xl2174 : xat rLawX.1 2174 = some (.iadd, 0, 0, 0) := by decide +kernel
theorem xl2175 : xat rLawX.1 2175 = some (.iaload, 0, 0, 0) := by decide +kernel
theorem xl2176 : xat rLawX.1 2176 = some (.aload_n 0, 0, 0, 0) := by decide +kernel
theorem xl2177 : xat rLawX.1 2177 = some (.iload_n 3, 0, 0, 0) := by decide +kernel
theorem xl2178 : xat rLawX.1 2178 = some (.iconst 2, 0, 0, 0) := by decide +kernel
theorem xl2179 : xat rLawX.1 2179 = some (.iadd, 0, 0, 0) := by decide +kernel
theorem xl2180 : xat rLawX.1 2180 = some (.iaload, 0, 0, 0) := by decide +kernel
theorem xl2181 : xat rLawX.1 2181 = some (.invokevirtual 260, 348, 3, 12) := by decide +kernel
theorem xl2184 : xat rLawX.1 2184 = some (.pop, 0, 0, 0) := by decide +kernel
theorem xl2185 : xat rLawX.1 2185 = some (.goto 29, 2214, 0, 0) := by decide +kernel
theorem xl2188 : xat rLawX.1 2188 = some (.aload_n 1, 0, 0, 0) := by decide +kernel
theorem xl2189 : xat rLawX.1 2189 = some (.invokevirtual 261, 197, 1, 11) := by decide +kernel
theorem xl2192 : xat rLawX.1 2192 = some (.pop, 0, 0, 0) := by decide +kernel
theorem xl2193 : xat rLawX.1 2193 = some (.aload_n 2, 0, 0, 0) := by decide +kernel
theorem xl2194 : xat rLawX.1 2194 = some (.invokevirtual 264, 350, 1, 12) := by decide +kernel
theorem xl2197 : xat rLawX.1 2197 = some (.pop, 0, 0, 0) := by decide +kernel
theorem xl2198 : xat rLawX.1 2198 = some (.goto 16, 2214, 0, 0) := by decide +kernel
theorem xl2201 : xat rLawX.1 2201 = some (.aload_n 1, 0, 0, 0) := by decide +kernel
theorem xl2202 : xat rLawX.1 2202 = some (.invokevirtual 265, 198, 1, 11) := by decide +kernel
theorem xl2205 : xat rLawX.1 2205 = some (.pop, 0, 0, 0) := by decide +kernel
theorem xl2206 : xat rLawX.1 2206 = some (.aload_n 2, 0, 0, 0) := by decide +kernel
theorem xl2207 : xat rLawX.1 2207 = some (.invokevirtual 268, 351, 1, 12) := by decide +kernel
theorem xl2210 : xat rLawX.1 2210 = some (.pop, 0, 0, 0) := by decide +kernel
theorem xl2211 : xat rLawX.1 2211 = some (.goto 3, 2214, 0, 0) := by decide +kernel
set_option maxRecDepth 100000 in
theorem lwc0 {sc : List Int32} {B : xM} {I : tI} {J : tJ} {m : Nat} {Q : Option Value → xM → Prop} (hm : m + 6 ≤ sc.length) (hl : sc.length ≤ 3072) (hI : LInv R7 sc B I J) (hb : ∀ B' I' J', LInv R7 sc B' I' J' → kSz B B' → sw sc rLawX 2214 (lwL m) [] (tMem B' I' J') Q) : sw sc rLawX 288 (lwL m) [] (tMem B I J) Q := by
  obtain ⟨hO, h5, hR⟩ := hI
  refine sw_0 (pc' := 289) (L' := lwL m) (st' := [.ref 0]) (M' := tMem B I J) xl288 rfl rfl ?_
  refine lw_call0 (c := nc0) (as := [.ref 0]) (rest := []) (r' := (xt_118, 1, 1)) xl289 rfl rfl (lw_recv (c := 11) (pB_nok rfl hO) rfl rfl rfl) rfl rfl rfl nN0 hO ⟨_, _, rfl, kv_argr 0, rfl⟩ (fun q hq => by cases hq) (fun v1 B1 I1 J1 hO1 hA1 hp1 hv1 => ?_)
  obtain ⟨x1, rfl, -, -⟩ := kvo_i hv1
  have h51 : npI [(186, 5, 0, 999)] I1 := npI_cg h5 (hA1.1 186 5 rfl).1
  refine sw_0 (pc' := 293) (L' := lwL m) (st' := []) (M' := tMem B1 I1 J1) xl292 rfl rfl ?_
  refine sw_0 (pc' := 294) (L' := lwL m) (st' := [.ref 185]) (M' := tMem B1 I1 J1) xl293 rfl rfl ?_
  refine lw_call0 (c := nc1) (as := [.ref 185]) (rest := []) (r' := (xt_201, 1, 1)) xl294 rfl rfl (lw_recv (c := 12) (pB_nok rfl hO1) rfl rfl rfl) rfl rfl rfl nN1 hO1 ⟨_, _, rfl, kv_argr 185, rfl⟩ h51 (fun v2 B2 I2 J2 hO2 hA2 hp2 hv2 => ?_)
  obtain ⟨x2, rfl, -, -⟩ := kvo_i hv2
  have h52 : npI [(186, 5, 0, 999)] I2 := hp2
  have hR1 := R7_ag hA1 (fun _ => ⟨rfl, rfl, rfl, rfl⟩) hR
  have hR2 := R7_ag hA2 (fun _ => ⟨rfl, rfl, rfl, rfl⟩) hR1
  refine sw_0 (pc' := 298) (L' := lwL m) (st' := []) (M' := tMem B2 I2 J2) xl297 rfl rfl ?_
  refine sw_0 (pc' := 2214) (L' := lwL m) (st' := []) (M' := tMem B2 I2 J2) xl298 rfl rfl ?_
  exact hb B2 I2 J2 ⟨hO2, h52, hR2⟩ ⟨hA2.2.2.1.trans hA1.2.2.1, hA2.2.2.2.trans hA1.2.2.2⟩
set_option maxRecDepth 100000 in
theorem lwc1 {sc : List Int32} {B : xM} {I : tI} {J : tJ} {m : Nat} {Q : Option Value → xM → Prop} (hm : m + 6 ≤ sc.length) (hl : sc.length ≤ 3072) (hI : LInv R7 sc B I J) (hb : ∀ B' I' J', LInv R7 sc B' I' J' → kSz B B' → sw sc rLawX 2214 (lwL m) [] (tMem B' I' J') Q) : sw sc rLawX 301 (lwL m) [] (tMem B I J) Q := by
  obtain ⟨hO, h5, hR⟩ := hI
  refine sw_0 (pc' := 302) (L' := lwL m) (st' := [.ref 0]) (M' := tMem B I J) xl301 rfl rfl ?_
  refine lw_call0 (c := nc2) (as := [.ref 0]) (rest := []) (r' := (xt_119, 1, 2)) xl302 rfl rfl (lw_recv (c := 11) (pB_nok rfl hO) rfl rfl rfl) rfl rfl rfl nN2 hO ⟨_, _, rfl, kv_argr 0, rfl⟩ (fun q hq => by cases hq) (fun v1 B1 I1 J1 hO1 hA1 hp1 hv1 => ?_)
  obtain ⟨x1, rfl⟩ := kvo_l hv1
  have h51 : npI [(186, 5, 0, 999)] I1 := npI_cg h5 (hA1.1 186 5 rfl).1
  refine sw_x (pc' := 306) (L' := lwL m) (st' := []) (M' := tMem B1 I1 J1) xl305 rfl rfl ?_
  refine sw_0 (pc' := 307) (L' := lwL m) (st' := [.ref 185]) (M' := tMem B1 I1 J1) xl306 rfl rfl ?_
  refine lw_call0 (c := nc3) (as := [.ref 185]) (rest := []) (r' := (xt_202, 1, 2)) xl307 rfl rfl (lw_recv (c := 12) (pB_nok rfl hO1) rfl rfl rfl) rfl rfl rfl nN3 hO1 ⟨_, _, rfl, kv_argr 185, rfl⟩ h51 (fun v2 B2 I2 J2 hO2 hA2 hp2 hv2 => ?_)
  obtain ⟨x2, rfl⟩ := kvo_l hv2
  have h52 : npI [(186, 5, 0, 999)] I2 := hp2
  have hR1 := R7_ag hA1 (fun _ => ⟨rfl, rfl, rfl, rfl⟩) hR
  have hR2 := R7_ag hA2 (fun _ => ⟨rfl, rfl, rfl, rfl⟩) hR1
  refine sw_x (pc' := 311) (L' := lwL m) (st' := []) (M' := tMem B2 I2 J2) xl310 rfl rfl ?_
  refine sw_0 (pc' := 2214) (L' := lwL m) (st' := []) (M' := tMem B2 I2 J2) xl311 rfl rfl ?_
  exact hb B2 I2 J2 ⟨hO2, h52, hR2⟩ ⟨hA2.2.2.1.trans hA1.2.2.1, hA2.2.2.2.trans hA1.2.2.2⟩
set_option maxRecDepth 100000 in
theorem lwc2 {sc : List Int32} {B : xM} {I : tI} {J : tJ} {m : Nat} {Q : Option Value → xM → Prop} (hm : m + 6 ≤ sc.length) (hl : sc.length ≤ 3072) (hI : LInv R7 sc B I J) (hb : ∀ B' I' J', LInv R7 sc B' I' J' → kSz B B' → sw sc rLawX 2214 (lwL m) [] (tMem B' I' J') Q) : sw sc rLawX 314 (lwL m) [] (tMem B I J) Q := by
  obtain ⟨hO, h5, hR⟩ := hI
  refine sw_0 (pc' := 315) (L' := lwL m) (st' := [.ref 0]) (M' := tMem B I J) xl314 rfl rfl ?_
  refine lw_call0 (c := nc4) (as := [.ref 0]) (rest := []) (r' := (xt_120, 1, 2)) xl315 rfl rfl (lw_recv (c := 11) (pB_nok rfl hO) rfl rfl rfl) rfl rfl rfl nN4 hO ⟨_, _, rfl, kv_argr 0, rfl⟩ (fun q hq => by cases hq) (fun v1 B1 I1 J1 hO1 hA1 hp1 hv1 => ?_)
  obtain ⟨x1, rfl⟩ := kvo_l hv1
  have h51 : npI [(186, 5, 0, 999)] I1 := npI_cg h5 (hA1.1 186 5 rfl).1
  refine sw_x (pc' := 319) (L' := lwL m) (st' := []) (M' := tMem B1 I1 J1) xl318 rfl rfl ?_
  refine sw_0 (pc' := 320) (L' := lwL m) (st' := [.ref 185]) (M' := tMem B1 I1 J1) xl319 rfl rfl ?_
  refine lw_call0 (c := nc5) (as := [.ref 185]) (rest := []) (r' := (xt_203, 1, 2)) xl320 rfl rfl (lw_recv (c := 12) (pB_nok rfl hO1) rfl rfl rfl) rfl rfl rfl nN5 hO1 ⟨_, _, rfl, kv_argr 185, rfl⟩ h51 (fun v2 B2 I2 J2 hO2 hA2 hp2 hv2 => ?_)
  obtain ⟨x2, rfl⟩ := kvo_l hv2
  have h52 : npI [(186, 5, 0, 999)] I2 := hp2
  have hR1 := R7_ag hA1 (fun _ => ⟨rfl, rfl, rfl, rfl⟩) hR
  have hR2 := R7_ag hA2 (fun _ => ⟨rfl, rfl, rfl, rfl⟩) hR1
  refine sw_x (pc' := 324) (L' := lwL m) (st' := []) (M' := tMem B2 I2 J2) xl323 rfl rfl ?_
  refine sw_0 (pc' := 2214) (L' := lwL m) (st' := []) (M' := tMem B2 I2 J2) xl324 rfl rfl ?_
  exact hb B2 I2 J2 ⟨hO2, h52, hR2⟩ ⟨hA2.2.2.1.trans hA1.2.2.1, hA2.2.2.2.trans hA1.2.2.2⟩
set_option maxRecDepth 100000 in
theorem lwc3 {sc : List Int32} {B : xM} {I : tI} {J : tJ} {m : Nat} {Q : Option Value → xM → Prop} (hm : m + 6 ≤ sc.length) (hl : sc.length ≤ 3072) (hI : LInv R7 sc B I J) (hb : ∀ B' I' J', LInv R7 sc B' I' J' → kSz B B' → sw sc rLawX 2214 (lwL m) [] (tMem B' I' J') Q) : sw sc rLawX 327 (lwL m) [] (tMem B I J) Q := by
  obtain ⟨hO, h5, hR⟩ := hI
  refine sw_0 (pc' := 328) (L' := lwL m) (st' := [.ref 0]) (M' := tMem B I J) xl327 rfl rfl ?_
  refine sw_0 (pc' := 329) (L' := lwL m) (st' := [.retAddr 0, .ref 0]) (M' := tMem B I J) xl328 rfl rfl ?_
  refine sw_0 (pc' := 330) (L' := lwL m) (st' := [.int (Int32.ofNat m), .retAddr 0, .ref 0]) (M' := tMem B I J) xl329 rfl rfl ?_
  refine sw_0 (pc' := 331) (L' := lwL m) (st' := [.int 1, .int (Int32.ofNat m), .retAddr 0, .ref 0]) (M' := tMem B I J) xl330 rfl rfl ?_
  refine sw_0 (pc' := 332) (L' := lwL m) (st' := [.int (Int32.ofNat m + 1), .retAddr 0, .ref 0]) (M' := tMem B I J) xl331 rfl rfl ?_
  refine sw_ial xl332 (show Int32.ofNat m + 1 = Int32.ofNat (m + 1) from oi_add (b := 1)) (by omega) hl ?_
  refine sw_0 (pc' := 334) (L' := lwL m) (st' := [.retAddr 0, .int (sc.getD (m + 1) 0), .ref 0]) (M' := tMem B I J) xl333 rfl rfl ?_
  refine sw_0 (pc' := 335) (L' := lwL m) (st' := [.int (Int32.ofNat m), .retAddr 0, .int (sc.getD (m + 1) 0), .ref 0]) (M' := tMem B I J) xl334 rfl rfl ?_
  refine sw_0 (pc' := 336) (L' := lwL m) (st' := [.int 2, .int (Int32.ofNat m), .retAddr 0, .int (sc.getD (m + 1) 0), .ref 0]) (M' := tMem B I J) xl335 rfl rfl ?_
  refine sw_0 (pc' := 337) (L' := lwL m) (st' := [.int (Int32.ofNat m + 2), .retAddr 0, .int (sc.getD (m + 1) 0), .ref 0]) (M' := tMem B I J) xl336 rfl rfl ?_
  refine sw_ial xl337 (show Int32.ofNat m + 2 = Int32.ofNat (m + 2) from oi_add (b := 2)) (by omega) hl ?_
  refine sw_0 (pc' := 339) (L' := lwL m) (st' := [.retAddr 0, .int (sc.getD (m + 2) 0), .int (sc.getD (m + 1) 0), .ref 0]) (M' := tMem B I J) xl338 rfl rfl ?_
  refine sw_0 (pc' := 340) (L' := lwL m) (st' := [.int (Int32.ofNat m), .retAddr 0, .int (sc.getD (m + 2) 0), .int (sc.getD (m + 1) 0), .ref 0]) (M' := tMem B I J) xl339 rfl rfl ?_
  refine sw_0 (pc' := 341) (L' := lwL m) (st' := [.int 3, .int (Int32.ofNat m), .retAddr 0, .int (sc.getD (m + 2) 0), .int (sc.getD (m + 1) 0), .ref 0]) (M' := tMem B I J) xl340 rfl rfl ?_
  refine sw_0 (pc' := 342) (L' := lwL m) (st' := [.int (Int32.ofNat m + 3), .retAddr 0, .int (sc.getD (m + 2) 0), .int (sc.getD (m + 1) 0), .ref 0]) (M' := tMem B I J) xl341 rfl rfl ?_
  refine sw_ial xl342 (show Int32.ofNat m + 3 = Int32.ofNat (m + 3) from oi_add (b := 3)) (by omega) hl ?_
  refine lw_call (F := fun n v K L => ∃ a, v = some (.int a) ∧ f134_0 n I J ((sc.getD (m + 1) 0)) ((sc.getD (m + 2) 0)) ((sc.getD (m + 3) 0)) = some (a, K, L)) (c := nc10) (as := [.ref 0, .int (sc.getD (m + 1) 0), .int (sc.getD (m + 2) 0), .int (sc.getD (m + 3) 0)]) (rest := []) (r' := (xt_134, 4, 3)) xl343 rfl rfl (lw_recv (c := 11) (pB_nok rfl hO) rfl rfl rfl) rfl rfl rfl nN10 hO ⟨_, _, rfl, kv_argr 0, _, _, rfl, kv_arg _, _, _, rfl, kv_arg _, _, _, rfl, kv_arg _, rfl⟩ (fun q hq => by cases hq) (fun n => f134_0_pq (pB_nok rfl hO) rfl) (fun n1 v1 B1 I1 J1 K1 L1 hO1 hA1 hp1 hv1 hF1 hs1 => ?_)
  obtain ⟨x1, rfl, hf1⟩ := hF1
  have h51 : npI [(186, 5, 0, 999)] I1 := npI_cg h5 (hA1.1 186 5 rfl).1
  refine sw_0 (pc' := 347) (L' := lwL m) (st' := []) (M' := tMem B1 I1 J1) xl346 rfl rfl ?_
  refine sw_0 (pc' := 348) (L' := lwL m) (st' := [.ref 185]) (M' := tMem B1 I1 J1) xl347 rfl rfl ?_
  refine sw_0 (pc' := 349) (L' := lwL m) (st' := [.retAddr 0, .ref 185]) (M' := tMem B1 I1 J1) xl348 rfl rfl ?_
  refine sw_0 (pc' := 350) (L' := lwL m) (st' := [.int (Int32.ofNat m), .retAddr 0, .ref 185]) (M' := tMem B1 I1 J1) xl349 rfl rfl ?_
  refine sw_0 (pc' := 351) (L' := lwL m) (st' := [.int 1, .int (Int32.ofNat m), .retAddr 0, .ref 185]) (M' := tMem B1 I1 J1) xl350 rfl rfl ?_
  refine sw_0 (pc' := 352) (L' := lwL m) (st' := [.int (Int32.ofNat m + 1), .retAddr 0, .ref 185]) (M' := tMem B1 I1 J1) xl351 rfl rfl ?_
  refine sw_ial xl352 (show Int32.ofNat m + 1 = Int32.ofNat (m + 1) from oi_add (b := 1)) (by omega) hl ?_
  refine sw_0 (pc' := 354) (L' := lwL m) (st' := [.retAddr 0, .int (sc.getD (m + 1) 0), .ref 185]) (M' := tMem B1 I1 J1) xl353 rfl rfl ?_
  refine sw_0 (pc' := 355) (L' := lwL m) (st' := [.int (Int32.ofNat m), .retAddr 0, .int (sc.getD (m + 1) 0), .ref 185]) (M' := tMem B1 I1 J1) xl354 rfl rfl ?_
  refine sw_0 (pc' := 356) (L' := lwL m) (st' := [.int 2, .int (Int32.ofNat m), .retAddr 0, .int (sc.getD (m + 1) 0), .ref 185]) (M' := tMem B1 I1 J1) xl355 rfl rfl ?_
  refine sw_0 (pc' := 357) (L' := lwL m) (st' := [.int (Int32.ofNat m + 2), .retAddr 0, .int (sc.getD (m + 1) 0), .ref 185]) (M' := tMem B1 I1 J1) xl356 rfl rfl ?_
  refine sw_ial xl357 (show Int32.ofNat m + 2 = Int32.ofNat (m + 2) from oi_add (b := 2)) (by omega) hl ?_
  refine sw_0 (pc' := 359) (L' := lwL m) (st' := [.retAddr 0, .int (sc.getD (m + 2) 0), .int (sc.getD (m + 1) 0), .ref 185]) (M' := tMem B1 I1 J1) xl358 rfl rfl ?_
  refine sw_0 (pc' := 360) (L' := lwL m) (st' := [.int (Int32.ofNat m), .retAddr 0, .int (sc.getD (m + 2) 0), .int (sc.getD (m + 1) 0), .ref 185]) (M' := tMem B1 I1 J1) xl359 rfl rfl ?_
  refine sw_0 (pc' := 361) (L' := lwL m) (st' := [.int 3, .int (Int32.ofNat m), .retAddr 0, .int (sc.getD (m + 2) 0), .int (sc.getD (m + 1) 0), .ref 185]) (M' := tMem B1 I1 J1) xl360 rfl rfl ?_
  refine sw_0 (pc' := 362) (L' := lwL m) (st' := [.int (Int32.ofNat m + 3), .retAddr 0, .int (sc.getD (m + 2) 0), .int (sc.getD (m + 1) 0), .ref 185]) (M' := tMem B1 I1 J1) xl361 rfl rfl ?_
  refine sw_ial xl362 (show Int32.ofNat m + 3 = Int32.ofNat (m + 3) from oi_add (b := 3)) (by omega) hl ?_
  refine lw_call (F := fun n v K L => ∃ a, v = some (.int a) ∧ f211_185 n I1 J1 ((sc.getD (m + 1) 0)) ((sc.getD (m + 2) 0)) ((sc.getD (m + 3) 0)) = some (a, K, L)) (c := nc11) (as := [.ref 185, .int (sc.getD (m + 1) 0), .int (sc.getD (m + 2) 0), .int (sc.getD (m + 3) 0)]) (rest := []) (r' := (xt_211, 5, 3)) xl363 rfl rfl (lw_recv (c := 12) (pB_nok rfl hO1) rfl rfl rfl) rfl rfl rfl nN11 hO1 ⟨_, _, rfl, kv_argr 185, _, _, rfl, kv_arg _, _, _, rfl, kv_arg _, _, _, rfl, kv_arg _, rfl⟩ h51 (fun n => f211_185_pq (pB_nok rfl hO1) rfl) (fun n2 v2 B2 I2 J2 K2 L2 hO2 hA2 hp2 hv2 hF2 hs2 => ?_)
  obtain ⟨x2, rfl, hf2⟩ := hF2
  have h52 : npI [(186, 5, 0, 999)] I2 := hp2
  have hTm := R7_mid hA1 (fun _ => ⟨rfl, rfl⟩) hR
  obtain ⟨hE, hT1⟩ := tray_rel hTm hf1 hf2
  have hR2 := R7_end hA2 hs1 hs2 (fun _ => ⟨rfl, rfl⟩) hT1
  refine sw_0 (pc' := 367) (L' := lwL m) (st' := []) (M' := tMem B2 I2 J2) xl366 rfl rfl ?_
  refine sw_0 (pc' := 2214) (L' := lwL m) (st' := []) (M' := tMem B2 I2 J2) xl367 rfl rfl ?_
  exact hb B2 I2 J2 ⟨hO2, h52, hR2⟩ ⟨hA2.2.2.1.trans hA1.2.2.1, hA2.2.2.2.trans hA1.2.2.2⟩
set_option maxRecDepth 100000 in
theorem lwc4 {sc : List Int32} {B : xM} {I : tI} {J : tJ} {m : Nat} {Q : Option Value → xM → Prop} (hm : m + 6 ≤ sc.length) (hl : sc.length ≤ 3072) (hI : LInv R7 sc B I J) (hb : ∀ B' I' J', LInv R7 sc B' I' J' → kSz B B' → sw sc rLawX 2214 (lwL m) [] (tMem B' I' J') Q) : sw sc rLawX 370 (lwL m) [] (tMem B I J) Q := by
  obtain ⟨hO, h5, hR⟩ := hI
  refine sw_0 (pc' := 371) (L' := lwL m) (st' := [.ref 0]) (M' := tMem B I J) xl370 rfl rfl ?_
  refine sw_0 (pc' := 372) (L' := lwL m) (st' := [.retAddr 0, .ref 0]) (M' := tMem B I J) xl371 rfl rfl ?_
  refine sw_0 (pc' := 373) (L' := lwL m) (st' := [.int (Int32.ofNat m), .retAddr 0, .ref 0]) (M' := tMem B I J) xl372 rfl rfl ?_
  refine sw_0 (pc' := 374) (L' := lwL m) (st' := [.int 1, .int (Int32.ofNat m), .retAddr 0, .ref 0]) (M' := tMem B I J) xl373 rfl rfl ?_
  refine sw_0 (pc' := 375) (L' := lwL m) (st' := [.int (Int32.ofNat m + 1), .retAddr 0, .ref 0]) (M' := tMem B I J) xl374 rfl rfl ?_
  refine sw_ial xl375 (show Int32.ofNat m + 1 = Int32.ofNat (m + 1) from oi_add (b := 1)) (by omega) hl ?_
  refine sw_0 (pc' := 377) (L' := lwL m) (st' := [.retAddr 0, .int (sc.getD (m + 1) 0), .ref 0]) (M' := tMem B I J) xl376 rfl rfl ?_
  refine sw_0 (pc' := 378) (L' := lwL m) (st' := [.int (Int32.ofNat m), .retAddr 0, .int (sc.getD (m + 1) 0), .ref 0]) (M' := tMem B I J) xl377 rfl rfl ?_
  refine sw_0 (pc' := 379) (L' := lwL m) (st' := [.int 2, .int (Int32.ofNat m), .retAddr 0, .int (sc.getD (m + 1) 0), .ref 0]) (M' := tMem B I J) xl378 rfl rfl ?_
  refine sw_0 (pc' := 380) (L' := lwL m) (st' := [.int (Int32.ofNat m + 2), .retAddr 0, .int (sc.getD (m + 1) 0), .ref 0]) (M' := tMem B I J) xl379 rfl rfl ?_
  refine sw_ial xl380 (show Int32.ofNat m + 2 = Int32.ofNat (m + 2) from oi_add (b := 2)) (by omega) hl ?_
  refine sw_0 (pc' := 382) (L' := lwL m) (st' := [.retAddr 0, .int (sc.getD (m + 2) 0), .int (sc.getD (m + 1) 0), .ref 0]) (M' := tMem B I J) xl381 rfl rfl ?_
  refine sw_0 (pc' := 383) (L' := lwL m) (st' := [.int (Int32.ofNat m), .retAddr 0, .int (sc.getD (m + 2) 0), .int (sc.getD (m + 1) 0), .ref 0]) (M' := tMem B I J) xl382 rfl rfl ?_
  refine sw_0 (pc' := 384) (L' := lwL m) (st' := [.int 3, .int (Int32.ofNat m), .retAddr 0, .int (sc.getD (m + 2) 0), .int (sc.getD (m + 1) 0), .ref 0]) (M' := tMem B I J) xl383 rfl rfl ?_
  refine sw_0 (pc' := 385) (L' := lwL m) (st' := [.int (Int32.ofNat m + 3), .retAddr 0, .int (sc.getD (m + 2) 0), .int (sc.getD (m + 1) 0), .ref 0]) (M' := tMem B I J) xl384 rfl rfl ?_
  refine sw_ial xl385 (show Int32.ofNat m + 3 = Int32.ofNat (m + 3) from oi_add (b := 3)) (by omega) hl ?_
  refine sw_0 (pc' := 387) (L' := lwL m) (st' := [.long ((sc.getD (m + 3) 0)).toInt64, .int (sc.getD (m + 2) 0), .int (sc.getD (m + 1) 0), .ref 0]) (M' := tMem B I J) xl386 rfl rfl ?_
  refine sw_0 (pc' := 389) (L' := lwL m) (st' := [.int 32, .long ((sc.getD (m + 3) 0)).toInt64, .int (sc.getD (m + 2) 0), .int (sc.getD (m + 1) 0), .ref 0]) (M' := tMem B I J) xl387 rfl rfl ?_
  refine sw_0 (pc' := 390) (L' := lwL m) (st' := [.long (((sc.getD (m + 3) 0)).toInt64 <<< ((Int32.toInt64 (32)) &&& 63)), .int (sc.getD (m + 2) 0), .int (sc.getD (m + 1) 0), .ref 0]) (M' := tMem B I J) xl389 rfl rfl ?_
  refine sw_0 (pc' := 391) (L' := lwL m) (st' := [.retAddr 0, .long (((sc.getD (m + 3) 0)).toInt64 <<< ((Int32.toInt64 (32)) &&& 63)), .int (sc.getD (m + 2) 0), .int (sc.getD (m + 1) 0), .ref 0]) (M' := tMem B I J) xl390 rfl rfl ?_
  refine sw_0 (pc' := 392) (L' := lwL m) (st' := [.int (Int32.ofNat m), .retAddr 0, .long (((sc.getD (m + 3) 0)).toInt64 <<< ((Int32.toInt64 (32)) &&& 63)), .int (sc.getD (m + 2) 0), .int (sc.getD (m + 1) 0), .ref 0]) (M' := tMem B I J) xl391 rfl rfl ?_
  refine sw_0 (pc' := 393) (L' := lwL m) (st' := [.int 4, .int (Int32.ofNat m), .retAddr 0, .long (((sc.getD (m + 3) 0)).toInt64 <<< ((Int32.toInt64 (32)) &&& 63)), .int (sc.getD (m + 2) 0), .int (sc.getD (m + 1) 0), .ref 0]) (M' := tMem B I J) xl392 rfl rfl ?_
  refine sw_0 (pc' := 394) (L' := lwL m) (st' := [.int (Int32.ofNat m + 4), .retAddr 0, .long (((sc.getD (m + 3) 0)).toInt64 <<< ((Int32.toInt64 (32)) &&& 63)), .int (sc.getD (m + 2) 0), .int (sc.getD (m + 1) 0), .ref 0]) (M' := tMem B I J) xl393 rfl rfl ?_
  refine sw_ial xl394 (show Int32.ofNat m + 4 = Int32.ofNat (m + 4) from oi_add (b := 4)) (by omega) hl ?_
  refine sw_0 (pc' := 396) (L' := lwL m) (st' := [.long ((sc.getD (m + 4) 0)).toInt64, .long (((sc.getD (m + 3) 0)).toInt64 <<< ((Int32.toInt64 (32)) &&& 63)), .int (sc.getD (m + 2) 0), .int (sc.getD (m + 1) 0), .ref 0]) (M' := tMem B I J) xl395 rfl rfl ?_
  refine sw_0 (pc' := 399) (L' := lwL m) (st' := [.long 4294967295, .long ((sc.getD (m + 4) 0)).toInt64, .long (((sc.getD (m + 3) 0)).toInt64 <<< ((Int32.toInt64 (32)) &&& 63)), .int (sc.getD (m + 2) 0), .int (sc.getD (m + 1) 0), .ref 0]) (M' := tMem B I J) xl396 rfl rfl ?_
  refine sw_0 (pc' := 400) (L' := lwL m) (st' := [.long (((sc.getD (m + 4) 0)).toInt64 &&& 4294967295), .long (((sc.getD (m + 3) 0)).toInt64 <<< ((Int32.toInt64 (32)) &&& 63)), .int (sc.getD (m + 2) 0), .int (sc.getD (m + 1) 0), .ref 0]) (M' := tMem B I J) xl399 rfl rfl ?_
  refine sw_0 (pc' := 401) (L' := lwL m) (st' := [.long ((((sc.getD (m + 3) 0)).toInt64 <<< ((Int32.toInt64 (32)) &&& 63)) ||| (((sc.getD (m + 4) 0)).toInt64 &&& 4294967295)), .int (sc.getD (m + 2) 0), .int (sc.getD (m + 1) 0), .ref 0]) (M' := tMem B I J) xl400 rfl rfl ?_
  refine lw_call (F := fun n v K L => ∃ a, v = some (.int a) ∧ f135_0 I J ((sc.getD (m + 1) 0)) ((sc.getD (m + 2) 0)) (((((sc.getD (m + 3) 0)).toInt64 <<< ((Int32.toInt64 (32)) &&& 63)) ||| (((sc.getD (m + 4) 0)).toInt64 &&& 4294967295))) = (a, K, L)) (c := nc12) (as := [.ref 0, .int (sc.getD (m + 1) 0), .int (sc.getD (m + 2) 0), .long ((((sc.getD (m + 3) 0)).toInt64 <<< ((Int32.toInt64 (32)) &&& 63)) ||| (((sc.getD (m + 4) 0)).toInt64 &&& 4294967295))]) (rest := []) (r' := (xt_135, 6, 3)) xl401 rfl rfl (lw_recv (c := 11) (pB_nok rfl hO) rfl rfl rfl) rfl rfl rfl nN12 hO ⟨_, _, rfl, kv_argr 0, _, _, rfl, kv_arg _, _, _, rfl, kv_arg _, _, _, rfl, kv_argl _, rfl⟩ (fun q hq => by cases hq) (fun n => pq_mono (f135_0_pq (pB_nok rfl hO) rfl) (fun v I1 J1 h => ⟨_, h.1, Prod.ext rfl (Prod.ext h.2.1.symm h.2.2.symm)⟩)) (fun n1 v1 B1 I1 J1 K1 L1 hO1 hA1 hp1 hv1 hF1 hs1 => ?_)
  obtain ⟨x1, rfl, hf1⟩ := hF1
  have h51 : npI [(186, 5, 0, 999)] I1 := npI_cg h5 (hA1.1 186 5 rfl).1
  refine sw_0 (pc' := 405) (L' := lwL m) (st' := []) (M' := tMem B1 I1 J1) xl404 rfl rfl ?_
  refine sw_0 (pc' := 406) (L' := lwL m) (st' := [.ref 185]) (M' := tMem B1 I1 J1) xl405 rfl rfl ?_
  refine sw_0 (pc' := 407) (L' := lwL m) (st' := [.retAddr 0, .ref 185]) (M' := tMem B1 I1 J1) xl406 rfl rfl ?_
  refine sw_0 (pc' := 408) (L' := lwL m) (st' := [.int (Int32.ofNat m), .retAddr 0, .ref 185]) (M' := tMem B1 I1 J1) xl407 rfl rfl ?_
  refine sw_0 (pc' := 409) (L' := lwL m) (st' := [.int 1, .int (Int32.ofNat m), .retAddr 0, .ref 185]) (M' := tMem B1 I1 J1) xl408 rfl rfl ?_
  refine sw_0 (pc' := 410) (L' := lwL m) (st' := [.int (Int32.ofNat m + 1), .retAddr 0, .ref 185]) (M' := tMem B1 I1 J1) xl409 rfl rfl ?_
  refine sw_ial xl410 (show Int32.ofNat m + 1 = Int32.ofNat (m + 1) from oi_add (b := 1)) (by omega) hl ?_
  refine sw_0 (pc' := 412) (L' := lwL m) (st' := [.retAddr 0, .int (sc.getD (m + 1) 0), .ref 185]) (M' := tMem B1 I1 J1) xl411 rfl rfl ?_
  refine sw_0 (pc' := 413) (L' := lwL m) (st' := [.int (Int32.ofNat m), .retAddr 0, .int (sc.getD (m + 1) 0), .ref 185]) (M' := tMem B1 I1 J1) xl412 rfl rfl ?_
  refine sw_0 (pc' := 414) (L' := lwL m) (st' := [.int 2, .int (Int32.ofNat m), .retAddr 0, .int (sc.getD (m + 1) 0), .ref 185]) (M' := tMem B1 I1 J1) xl413 rfl rfl ?_
  refine sw_0 (pc' := 415) (L' := lwL m) (st' := [.int (Int32.ofNat m + 2), .retAddr 0, .int (sc.getD (m + 1) 0), .ref 185]) (M' := tMem B1 I1 J1) xl414 rfl rfl ?_
  refine sw_ial xl415 (show Int32.ofNat m + 2 = Int32.ofNat (m + 2) from oi_add (b := 2)) (by omega) hl ?_
  refine sw_0 (pc' := 417) (L' := lwL m) (st' := [.retAddr 0, .int (sc.getD (m + 2) 0), .int (sc.getD (m + 1) 0), .ref 185]) (M' := tMem B1 I1 J1) xl416 rfl rfl ?_
  refine sw_0 (pc' := 418) (L' := lwL m) (st' := [.int (Int32.ofNat m), .retAddr 0, .int (sc.getD (m + 2) 0), .int (sc.getD (m + 1) 0), .ref 185]) (M' := tMem B1 I1 J1) xl417 rfl rfl ?_
  refine sw_0 (pc' := 419) (L' := lwL m) (st' := [.int 3, .int (Int32.ofNat m), .retAddr 0, .int (sc.getD (m + 2) 0), .int (sc.getD (m + 1) 0), .ref 185]) (M' := tMem B1 I1 J1) xl418 rfl rfl ?_
  refine sw_0 (pc' := 420) (L' := lwL m) (st' := [.int (Int32.ofNat m + 3), .retAddr 0, .int (sc.getD (m + 2) 0), .int (sc.getD (m + 1) 0), .ref 185]) (M' := tMem B1 I1 J1) xl419 rfl rfl ?_
  refine sw_ial xl420 (show Int32.ofNat m + 3 = Int32.ofNat (m + 3) from oi_add (b := 3)) (by omega) hl ?_
  refine sw_0 (pc' := 422) (L' := lwL m) (st' := [.long ((sc.getD (m + 3) 0)).toInt64, .int (sc.getD (m + 2) 0), .int (sc.getD (m + 1) 0), .ref 185]) (M' := tMem B1 I1 J1) xl421 rfl rfl ?_
  refine sw_0 (pc' := 424) (L' := lwL m) (st' := [.int 32, .long ((sc.getD (m + 3) 0)).toInt64, .int (sc.getD (m + 2) 0), .int (sc.getD (m + 1) 0), .ref 185]) (M' := tMem B1 I1 J1) xl422 rfl rfl ?_
  refine sw_0 (pc' := 425) (L' := lwL m) (st' := [.long (((sc.getD (m + 3) 0)).toInt64 <<< ((Int32.toInt64 (32)) &&& 63)), .int (sc.getD (m + 2) 0), .int (sc.getD (m + 1) 0), .ref 185]) (M' := tMem B1 I1 J1) xl424 rfl rfl ?_
  refine sw_0 (pc' := 426) (L' := lwL m) (st' := [.retAddr 0, .long (((sc.getD (m + 3) 0)).toInt64 <<< ((Int32.toInt64 (32)) &&& 63)), .int (sc.getD (m + 2) 0), .int (sc.getD (m + 1) 0), .ref 185]) (M' := tMem B1 I1 J1) xl425 rfl rfl ?_
  refine sw_0 (pc' := 427) (L' := lwL m) (st' := [.int (Int32.ofNat m), .retAddr 0, .long (((sc.getD (m + 3) 0)).toInt64 <<< ((Int32.toInt64 (32)) &&& 63)), .int (sc.getD (m + 2) 0), .int (sc.getD (m + 1) 0), .ref 185]) (M' := tMem B1 I1 J1) xl426 rfl rfl ?_
  refine sw_0 (pc' := 428) (L' := lwL m) (st' := [.int 4, .int (Int32.ofNat m), .retAddr 0, .long (((sc.getD (m + 3) 0)).toInt64 <<< ((Int32.toInt64 (32)) &&& 63)), .int (sc.getD (m + 2) 0), .int (sc.getD (m + 1) 0), .ref 185]) (M' := tMem B1 I1 J1) xl427 rfl rfl ?_
  refine sw_0 (pc' := 429) (L' := lwL m) (st' := [.int (Int32.ofNat m + 4), .retAddr 0, .long (((sc.getD (m + 3) 0)).toInt64 <<< ((Int32.toInt64 (32)) &&& 63)), .int (sc.getD (m + 2) 0), .int (sc.getD (m + 1) 0), .ref 185]) (M' := tMem B1 I1 J1) xl428 rfl rfl ?_
  refine sw_ial xl429 (show Int32.ofNat m + 4 = Int32.ofNat (m + 4) from oi_add (b := 4)) (by omega) hl ?_
  refine sw_0 (pc' := 431) (L' := lwL m) (st' := [.long ((sc.getD (m + 4) 0)).toInt64, .long (((sc.getD (m + 3) 0)).toInt64 <<< ((Int32.toInt64 (32)) &&& 63)), .int (sc.getD (m + 2) 0), .int (sc.getD (m + 1) 0), .ref 185]) (M' := tMem B1 I1 J1) xl430 rfl rfl ?_
  refine sw_0 (pc' := 434) (L' := lwL m) (st' := [.long 4294967295, .long ((sc.getD (m + 4) 0)).toInt64, .long (((sc.getD (m + 3) 0)).toInt64 <<< ((Int32.toInt64 (32)) &&& 63)), .int (sc.getD (m + 2) 0), .int (sc.getD (m + 1) 0), .ref 185]) (M' := tMem B1 I1 J1) xl431 rfl rfl ?_
  refine sw_0 (pc' := 435) (L' := lwL m) (st' := [.long (((sc.getD (m + 4) 0)).toInt64 &&& 4294967295), .long (((sc.getD (m + 3) 0)).toInt64 <<< ((Int32.toInt64 (32)) &&& 63)), .int (sc.getD (m + 2) 0), .int (sc.getD (m + 1) 0), .ref 185]) (M' := tMem B1 I1 J1) xl434 rfl rfl ?_
  refine sw_0 (pc' := 436) (L' := lwL m) (st' := [.long ((((sc.getD (m + 3) 0)).toInt64 <<< ((Int32.toInt64 (32)) &&& 63)) ||| (((sc.getD (m + 4) 0)).toInt64 &&& 4294967295)), .int (sc.getD (m + 2) 0), .int (sc.getD (m + 1) 0), .ref 185]) (M' := tMem B1 I1 J1) xl435 rfl rfl ?_
  refine lw_call (F := fun n v K L => ∃ a, v = some (.int a) ∧ f213_185 I1 J1 ((sc.getD (m + 1) 0)) ((sc.getD (m + 2) 0)) (((((sc.getD (m + 3) 0)).toInt64 <<< ((Int32.toInt64 (32)) &&& 63)) ||| (((sc.getD (m + 4) 0)).toInt64 &&& 4294967295))) = (a, K, L)) (c := nc13) (as := [.ref 185, .int (sc.getD (m + 1) 0), .int (sc.getD (m + 2) 0), .long ((((sc.getD (m + 3) 0)).toInt64 <<< ((Int32.toInt64 (32)) &&& 63)) ||| (((sc.getD (m + 4) 0)).toInt64 &&& 4294967295))]) (rest := []) (r' := (xt_213, 6, 3)) xl436 rfl rfl (lw_recv (c := 12) (pB_nok rfl hO1) rfl rfl rfl) rfl rfl rfl nN13 hO1 ⟨_, _, rfl, kv_argr 185, _, _, rfl, kv_arg _, _, _, rfl, kv_arg _, _, _, rfl, kv_argl _, rfl⟩ h51 (fun n => pq_mono (f213_185_pq (pB_nok rfl hO1) rfl) (fun v I1 J1 h => ⟨_, h.1, Prod.ext rfl (Prod.ext h.2.1.symm h.2.2.symm)⟩)) (fun n2 v2 B2 I2 J2 K2 L2 hO2 hA2 hp2 hv2 hF2 hs2 => ?_)
  obtain ⟨x2, rfl, hf2⟩ := hF2
  have h52 : npI [(186, 5, 0, 999)] I2 := hp2
  have hTm := R7_mid hA1 (fun _ => ⟨rfl, rfl⟩) hR
  obtain ⟨hE, hT1⟩ := write_rel hTm hf1 hf2
  have hR2 := R7_end hA2 hs1 hs2 (fun _ => ⟨rfl, rfl⟩) hT1
  refine sw_0 (pc' := 440) (L' := lwL m) (st' := []) (M' := tMem B2 I2 J2) xl439 rfl rfl ?_
  refine sw_0 (pc' := 2214) (L' := lwL m) (st' := []) (M' := tMem B2 I2 J2) xl440 rfl rfl ?_
  exact hb B2 I2 J2 ⟨hO2, h52, hR2⟩ ⟨hA2.2.2.1.trans hA1.2.2.1, hA2.2.2.2.trans hA1.2.2.2⟩
set_option maxRecDepth 100000 in
theorem lwc5 {sc : List Int32} {B : xM} {I : tI} {J : tJ} {m : Nat} {Q : Option Value → xM → Prop} (hm : m + 6 ≤ sc.length) (hl : sc.length ≤ 3072) (hI : LInv R7 sc B I J) (hb : ∀ B' I' J', LInv R7 sc B' I' J' → kSz B B' → sw sc rLawX 2214 (lwL m) [] (tMem B' I' J') Q) : sw sc rLawX 443 (lwL m) [] (tMem B I J) Q := by
  obtain ⟨hO, h5, hR⟩ := hI
  refine sw_0 (pc' := 444) (L' := lwL m) (st' := [.ref 0]) (M' := tMem B I J) xl443 rfl rfl ?_
  refine sw_0 (pc' := 445) (L' := lwL m) (st' := [.retAddr 0, .ref 0]) (M' := tMem B I J) xl444 rfl rfl ?_
  refine sw_0 (pc' := 446) (L' := lwL m) (st' := [.int (Int32.ofNat m), .retAddr 0, .ref 0]) (M' := tMem B I J) xl445 rfl rfl ?_
  refine sw_0 (pc' := 447) (L' := lwL m) (st' := [.int 1, .int (Int32.ofNat m), .retAddr 0, .ref 0]) (M' := tMem B I J) xl446 rfl rfl ?_
  refine sw_0 (pc' := 448) (L' := lwL m) (st' := [.int (Int32.ofNat m + 1), .retAddr 0, .ref 0]) (M' := tMem B I J) xl447 rfl rfl ?_
  refine sw_ial xl448 (show Int32.ofNat m + 1 = Int32.ofNat (m + 1) from oi_add (b := 1)) (by omega) hl ?_
  refine sw_0 (pc' := 450) (L' := lwL m) (st' := [.retAddr 0, .int (sc.getD (m + 1) 0), .ref 0]) (M' := tMem B I J) xl449 rfl rfl ?_
  refine sw_0 (pc' := 451) (L' := lwL m) (st' := [.int (Int32.ofNat m), .retAddr 0, .int (sc.getD (m + 1) 0), .ref 0]) (M' := tMem B I J) xl450 rfl rfl ?_
  refine sw_0 (pc' := 452) (L' := lwL m) (st' := [.int 2, .int (Int32.ofNat m), .retAddr 0, .int (sc.getD (m + 1) 0), .ref 0]) (M' := tMem B I J) xl451 rfl rfl ?_
  refine sw_0 (pc' := 453) (L' := lwL m) (st' := [.int (Int32.ofNat m + 2), .retAddr 0, .int (sc.getD (m + 1) 0), .ref 0]) (M' := tMem B I J) xl452 rfl rfl ?_
  refine sw_ial xl453 (show Int32.ofNat m + 2 = Int32.ofNat (m + 2) from oi_add (b := 2)) (by omega) hl ?_
  refine lw_call0 (c := nc14) (as := [.ref 0, .int (sc.getD (m + 1) 0), .int (sc.getD (m + 2) 0)]) (rest := []) (r' := (xt_136, 4, 2)) xl454 rfl rfl (lw_recv (c := 11) (pB_nok rfl hO) rfl rfl rfl) rfl rfl rfl nN14 hO ⟨_, _, rfl, kv_argr 0, _, _, rfl, kv_arg _, _, _, rfl, kv_arg _, rfl⟩ (fun q hq => by cases hq) (fun v1 B1 I1 J1 hO1 hA1 hp1 hv1 => ?_)
  obtain ⟨x1, rfl⟩ := kvo_l hv1
  have h51 : npI [(186, 5, 0, 999)] I1 := npI_cg h5 (hA1.1 186 5 rfl).1
  refine sw_x (pc' := 458) (L' := lwL m) (st' := []) (M' := tMem B1 I1 J1) xl457 rfl rfl ?_
  refine sw_0 (pc' := 459) (L' := lwL m) (st' := [.ref 185]) (M' := tMem B1 I1 J1) xl458 rfl rfl ?_
  refine sw_0 (pc' := 460) (L' := lwL m) (st' := [.retAddr 0, .ref 185]) (M' := tMem B1 I1 J1) xl459 rfl rfl ?_
  refine sw_0 (pc' := 461) (L' := lwL m) (st' := [.int (Int32.ofNat m), .retAddr 0, .ref 185]) (M' := tMem B1 I1 J1) xl460 rfl rfl ?_
  refine sw_0 (pc' := 462) (L' := lwL m) (st' := [.int 1, .int (Int32.ofNat m), .retAddr 0, .ref 185]) (M' := tMem B1 I1 J1) xl461 rfl rfl ?_
  refine sw_0 (pc' := 463) (L' := lwL m) (st' := [.int (Int32.ofNat m + 1), .retAddr 0, .ref 185]) (M' := tMem B1 I1 J1) xl462 rfl rfl ?_
  refine sw_ial xl463 (show Int32.ofNat m + 1 = Int32.ofNat (m + 1) from oi_add (b := 1)) (by omega) hl ?_
  refine sw_0 (pc' := 465) (L' := lwL m) (st' := [.retAddr 0, .int (sc.getD (m + 1) 0), .ref 185]) (M' := tMem B1 I1 J1) xl464 rfl rfl ?_
  refine sw_0 (pc' := 466) (L' := lwL m) (st' := [.int (Int32.ofNat m), .retAddr 0, .int (sc.getD (m + 1) 0), .ref 185]) (M' := tMem B1 I1 J1) xl465 rfl rfl ?_
  refine sw_0 (pc' := 467) (L' := lwL m) (st' := [.int 2, .int (Int32.ofNat m), .retAddr 0, .int (sc.getD (m + 1) 0), .ref 185]) (M' := tMem B1 I1 J1) xl466 rfl rfl ?_
  refine sw_0 (pc' := 468) (L' := lwL m) (st' := [.int (Int32.ofNat m + 2), .retAddr 0, .int (sc.getD (m + 1) 0), .ref 185]) (M' := tMem B1 I1 J1) xl467 rfl rfl ?_
  refine sw_ial xl468 (show Int32.ofNat m + 2 = Int32.ofNat (m + 2) from oi_add (b := 2)) (by omega) hl ?_
  refine lw_call0 (c := nc15) (as := [.ref 185, .int (sc.getD (m + 1) 0), .int (sc.getD (m + 2) 0)]) (rest := []) (r' := (xt_214, 3, 2)) xl469 rfl rfl (lw_recv (c := 12) (pB_nok rfl hO1) rfl rfl rfl) rfl rfl rfl nN15 hO1 ⟨_, _, rfl, kv_argr 185, _, _, rfl, kv_arg _, _, _, rfl, kv_arg _, rfl⟩ h51 (fun v2 B2 I2 J2 hO2 hA2 hp2 hv2 => ?_)
  obtain ⟨x2, rfl⟩ := kvo_l hv2
  have h52 : npI [(186, 5, 0, 999)] I2 := hp2
  have hR1 := R7_ag hA1 (fun _ => ⟨rfl, rfl, rfl, rfl⟩) hR
  have hR2 := R7_ag hA2 (fun _ => ⟨rfl, rfl, rfl, rfl⟩) hR1
  refine sw_x (pc' := 473) (L' := lwL m) (st' := []) (M' := tMem B2 I2 J2) xl472 rfl rfl ?_
  refine sw_0 (pc' := 2214) (L' := lwL m) (st' := []) (M' := tMem B2 I2 J2) xl473 rfl rfl ?_
  exact hb B2 I2 J2 ⟨hO2, h52, hR2⟩ ⟨hA2.2.2.1.trans hA1.2.2.1, hA2.2.2.2.trans hA1.2.2.2⟩
set_option maxRecDepth 100000 in
theorem lwc6 {sc : List Int32} {B : xM} {I : tI} {J : tJ} {m : Nat} {Q : Option Value → xM → Prop} (hm : m + 6 ≤ sc.length) (hl : sc.length ≤ 3072) (hI : LInv R7 sc B I J) (hb : ∀ B' I' J', LInv R7 sc B' I' J' → kSz B B' → sw sc rLawX 2214 (lwL m) [] (tMem B' I' J') Q) : sw sc rLawX 476 (lwL m) [] (tMem B I J) Q := by
  obtain ⟨hO, h5, hR⟩ := hI
  refine sw_0 (pc' := 477) (L' := lwL m) (st' := [.ref 0]) (M' := tMem B I J) xl476 rfl rfl ?_
  refine sw_0 (pc' := 478) (L' := lwL m) (st' := [.retAddr 0, .ref 0]) (M' := tMem B I J) xl477 rfl rfl ?_
  refine sw_0 (pc' := 479) (L' := lwL m) (st' := [.int (Int32.ofNat m), .retAddr 0, .ref 0]) (M' := tMem B I J) xl478 rfl rfl ?_
  refine sw_0 (pc' := 480) (L' := lwL m) (st' := [.int 1, .int (Int32.ofNat m), .retAddr 0, .ref 0]) (M' := tMem B I J) xl479 rfl rfl ?_
  refine sw_0 (pc' := 481) (L' := lwL m) (st' := [.int (Int32.ofNat m + 1), .retAddr 0, .ref 0]) (M' := tMem B I J) xl480 rfl rfl ?_
  refine sw_ial xl481 (show Int32.ofNat m + 1 = Int32.ofNat (m + 1) from oi_add (b := 1)) (by omega) hl ?_
  refine sw_0 (pc' := 483) (L' := lwL m) (st' := [.retAddr 0, .int (sc.getD (m + 1) 0), .ref 0]) (M' := tMem B I J) xl482 rfl rfl ?_
  refine sw_0 (pc' := 484) (L' := lwL m) (st' := [.int (Int32.ofNat m), .retAddr 0, .int (sc.getD (m + 1) 0), .ref 0]) (M' := tMem B I J) xl483 rfl rfl ?_
  refine sw_0 (pc' := 485) (L' := lwL m) (st' := [.int 2, .int (Int32.ofNat m), .retAddr 0, .int (sc.getD (m + 1) 0), .ref 0]) (M' := tMem B I J) xl484 rfl rfl ?_
  refine sw_0 (pc' := 486) (L' := lwL m) (st' := [.int (Int32.ofNat m + 2), .retAddr 0, .int (sc.getD (m + 1) 0), .ref 0]) (M' := tMem B I J) xl485 rfl rfl ?_
  refine sw_ial xl486 (show Int32.ofNat m + 2 = Int32.ofNat (m + 2) from oi_add (b := 2)) (by omega) hl ?_
  refine sw_0 (pc' := 488) (L' := lwL m) (st' := [.retAddr 0, .int (sc.getD (m + 2) 0), .int (sc.getD (m + 1) 0), .ref 0]) (M' := tMem B I J) xl487 rfl rfl ?_
  refine sw_0 (pc' := 489) (L' := lwL m) (st' := [.int (Int32.ofNat m), .retAddr 0, .int (sc.getD (m + 2) 0), .int (sc.getD (m + 1) 0), .ref 0]) (M' := tMem B I J) xl488 rfl rfl ?_
  refine sw_0 (pc' := 490) (L' := lwL m) (st' := [.int 3, .int (Int32.ofNat m), .retAddr 0, .int (sc.getD (m + 2) 0), .int (sc.getD (m + 1) 0), .ref 0]) (M' := tMem B I J) xl489 rfl rfl ?_
  refine sw_0 (pc' := 491) (L' := lwL m) (st' := [.int (Int32.ofNat m + 3), .retAddr 0, .int (sc.getD (m + 2) 0), .int (sc.getD (m + 1) 0), .ref 0]) (M' := tMem B I J) xl490 rfl rfl ?_
  refine sw_ial xl491 (show Int32.ofNat m + 3 = Int32.ofNat (m + 3) from oi_add (b := 3)) (by omega) hl ?_
  refine sw_0 (pc' := 493) (L' := lwL m) (st' := [.retAddr 0, .int (sc.getD (m + 3) 0), .int (sc.getD (m + 2) 0), .int (sc.getD (m + 1) 0), .ref 0]) (M' := tMem B I J) xl492 rfl rfl ?_
  refine sw_0 (pc' := 494) (L' := lwL m) (st' := [.int (Int32.ofNat m), .retAddr 0, .int (sc.getD (m + 3) 0), .int (sc.getD (m + 2) 0), .int (sc.getD (m + 1) 0), .ref 0]) (M' := tMem B I J) xl493 rfl rfl ?_
  refine sw_0 (pc' := 495) (L' := lwL m) (st' := [.int 4, .int (Int32.ofNat m), .retAddr 0, .int (sc.getD (m + 3) 0), .int (sc.getD (m + 2) 0), .int (sc.getD (m + 1) 0), .ref 0]) (M' := tMem B I J) xl494 rfl rfl ?_
  refine sw_0 (pc' := 496) (L' := lwL m) (st' := [.int (Int32.ofNat m + 4), .retAddr 0, .int (sc.getD (m + 3) 0), .int (sc.getD (m + 2) 0), .int (sc.getD (m + 1) 0), .ref 0]) (M' := tMem B I J) xl495 rfl rfl ?_
  refine sw_ial xl496 (show Int32.ofNat m + 4 = Int32.ofNat (m + 4) from oi_add (b := 4)) (by omega) hl ?_
  refine sw_0 (pc' := 498) (L' := lwL m) (st' := [.retAddr 0, .int (sc.getD (m + 4) 0), .int (sc.getD (m + 3) 0), .int (sc.getD (m + 2) 0), .int (sc.getD (m + 1) 0), .ref 0]) (M' := tMem B I J) xl497 rfl rfl ?_
  refine sw_0 (pc' := 499) (L' := lwL m) (st' := [.int (Int32.ofNat m), .retAddr 0, .int (sc.getD (m + 4) 0), .int (sc.getD (m + 3) 0), .int (sc.getD (m + 2) 0), .int (sc.getD (m + 1) 0), .ref 0]) (M' := tMem B I J) xl498 rfl rfl ?_
  refine sw_0 (pc' := 500) (L' := lwL m) (st' := [.int 5, .int (Int32.ofNat m), .retAddr 0, .int (sc.getD (m + 4) 0), .int (sc.getD (m + 3) 0), .int (sc.getD (m + 2) 0), .int (sc.getD (m + 1) 0), .ref 0]) (M' := tMem B I J) xl499 rfl rfl ?_
  refine sw_0 (pc' := 501) (L' := lwL m) (st' := [.int (Int32.ofNat m + 5), .retAddr 0, .int (sc.getD (m + 4) 0), .int (sc.getD (m + 3) 0), .int (sc.getD (m + 2) 0), .int (sc.getD (m + 1) 0), .ref 0]) (M' := tMem B I J) xl500 rfl rfl ?_
  refine sw_ial xl501 (show Int32.ofNat m + 5 = Int32.ofNat (m + 5) from oi_add (b := 5)) (by omega) hl ?_
  refine lw_call (F := fun n v K L => ∃ a, v = some (.int a) ∧ f137_0 I J ((sc.getD (m + 1) 0)) ((sc.getD (m + 2) 0)) ((sc.getD (m + 3) 0)) ((sc.getD (m + 4) 0)) ((sc.getD (m + 5) 0)) = (a, K, L)) (c := nc16) (as := [.ref 0, .int (sc.getD (m + 1) 0), .int (sc.getD (m + 2) 0), .int (sc.getD (m + 3) 0), .int (sc.getD (m + 4) 0), .int (sc.getD (m + 5) 0)]) (rest := []) (r' := (xt_137, 6, 3)) xl502 rfl rfl (lw_recv (c := 11) (pB_nok rfl hO) rfl rfl rfl) rfl rfl rfl nN16 hO ⟨_, _, rfl, kv_argr 0, _, _, rfl, kv_arg _, _, _, rfl, kv_arg _, _, _, rfl, kv_arg _, _, _, rfl, kv_arg _, _, _, rfl, kv_arg _, rfl⟩ (fun q hq => by cases hq) (fun n => pq_mono (f137_0_pq (pB_nok rfl hO) rfl) (fun v I1 J1 h => ⟨_, h.1, Prod.ext rfl (Prod.ext h.2.1.symm h.2.2.symm)⟩)) (fun n1 v1 B1 I1 J1 K1 L1 hO1 hA1 hp1 hv1 hF1 hs1 => ?_)
  obtain ⟨x1, rfl, hf1⟩ := hF1
  have h51 : npI [(186, 5, 0, 999)] I1 := npI_cg h5 (hA1.1 186 5 rfl).1
  refine sw_0 (pc' := 506) (L' := lwL m) (st' := [.ref 185, .int x1]) (M' := tMem B1 I1 J1) xl505 rfl rfl ?_
  refine sw_0 (pc' := 507) (L' := lwL m) (st' := [.retAddr 0, .ref 185, .int x1]) (M' := tMem B1 I1 J1) xl506 rfl rfl ?_
  refine sw_0 (pc' := 508) (L' := lwL m) (st' := [.int (Int32.ofNat m), .retAddr 0, .ref 185, .int x1]) (M' := tMem B1 I1 J1) xl507 rfl rfl ?_
  refine sw_0 (pc' := 509) (L' := lwL m) (st' := [.int 1, .int (Int32.ofNat m), .retAddr 0, .ref 185, .int x1]) (M' := tMem B1 I1 J1) xl508 rfl rfl ?_
  refine sw_0 (pc' := 510) (L' := lwL m) (st' := [.int (Int32.ofNat m + 1), .retAddr 0, .ref 185, .int x1]) (M' := tMem B1 I1 J1) xl509 rfl rfl ?_
  refine sw_ial xl510 (show Int32.ofNat m + 1 = Int32.ofNat (m + 1) from oi_add (b := 1)) (by omega) hl ?_
  refine sw_0 (pc' := 512) (L' := lwL m) (st' := [.retAddr 0, .int (sc.getD (m + 1) 0), .ref 185, .int x1]) (M' := tMem B1 I1 J1) xl511 rfl rfl ?_
  refine sw_0 (pc' := 513) (L' := lwL m) (st' := [.int (Int32.ofNat m), .retAddr 0, .int (sc.getD (m + 1) 0), .ref 185, .int x1]) (M' := tMem B1 I1 J1) xl512 rfl rfl ?_
  refine sw_0 (pc' := 514) (L' := lwL m) (st' := [.int 2, .int (Int32.ofNat m), .retAddr 0, .int (sc.getD (m + 1) 0), .ref 185, .int x1]) (M' := tMem B1 I1 J1) xl513 rfl rfl ?_
  refine sw_0 (pc' := 515) (L' := lwL m) (st' := [.int (Int32.ofNat m + 2), .retAddr 0, .int (sc.getD (m + 1) 0), .ref 185, .int x1]) (M' := tMem B1 I1 J1) xl514 rfl rfl ?_
  refine sw_ial xl515 (show Int32.ofNat m + 2 = Int32.ofNat (m + 2) from oi_add (b := 2)) (by omega) hl ?_
  refine sw_0 (pc' := 517) (L' := lwL m) (st' := [.retAddr 0, .int (sc.getD (m + 2) 0), .int (sc.getD (m + 1) 0), .ref 185, .int x1]) (M' := tMem B1 I1 J1) xl516 rfl rfl ?_
  refine sw_0 (pc' := 518) (L' := lwL m) (st' := [.int (Int32.ofNat m), .retAddr 0, .int (sc.getD (m + 2) 0), .int (sc.getD (m + 1) 0), .ref 185, .int x1]) (M' := tMem B1 I1 J1) xl517 rfl rfl ?_
  refine sw_0 (pc' := 519) (L' := lwL m) (st' := [.int 3, .int (Int32.ofNat m), .retAddr 0, .int (sc.getD (m + 2) 0), .int (sc.getD (m + 1) 0), .ref 185, .int x1]) (M' := tMem B1 I1 J1) xl518 rfl rfl ?_
  refine sw_0 (pc' := 520) (L' := lwL m) (st' := [.int (Int32.ofNat m + 3), .retAddr 0, .int (sc.getD (m + 2) 0), .int (sc.getD (m + 1) 0), .ref 185, .int x1]) (M' := tMem B1 I1 J1) xl519 rfl rfl ?_
  refine sw_ial xl520 (show Int32.ofNat m + 3 = Int32.ofNat (m + 3) from oi_add (b := 3)) (by omega) hl ?_
  refine sw_0 (pc' := 522) (L' := lwL m) (st' := [.retAddr 0, .int (sc.getD (m + 3) 0), .int (sc.getD (m + 2) 0), .int (sc.getD (m + 1) 0), .ref 185, .int x1]) (M' := tMem B1 I1 J1) xl521 rfl rfl ?_
  refine sw_0 (pc' := 523) (L' := lwL m) (st' := [.int (Int32.ofNat m), .retAddr 0, .int (sc.getD (m + 3) 0), .int (sc.getD (m + 2) 0), .int (sc.getD (m + 1) 0), .ref 185, .int x1]) (M' := tMem B1 I1 J1) xl522 rfl rfl ?_
  refine sw_0 (pc' := 524) (L' := lwL m) (st' := [.int 4, .int (Int32.ofNat m), .retAddr 0, .int (sc.getD (m + 3) 0), .int (sc.getD (m + 2) 0), .int (sc.getD (m + 1) 0), .ref 185, .int x1]) (M' := tMem B1 I1 J1) xl523 rfl rfl ?_
  refine sw_0 (pc' := 525) (L' := lwL m) (st' := [.int (Int32.ofNat m + 4), .retAddr 0, .int (sc.getD (m + 3) 0), .int (sc.getD (m + 2) 0), .int (sc.getD (m + 1) 0), .ref 185, .int x1]) (M' := tMem B1 I1 J1) xl524 rfl rfl ?_
  refine sw_ial xl525 (show Int32.ofNat m + 4 = Int32.ofNat (m + 4) from oi_add (b := 4)) (by omega) hl ?_
  refine sw_0 (pc' := 527) (L' := lwL m) (st' := [.retAddr 0, .int (sc.getD (m + 4) 0), .int (sc.getD (m + 3) 0), .int (sc.getD (m + 2) 0), .int (sc.getD (m + 1) 0), .ref 185, .int x1]) (M' := tMem B1 I1 J1) xl526 rfl rfl ?_
  refine sw_0 (pc' := 528) (L' := lwL m) (st' := [.int (Int32.ofNat m), .retAddr 0, .int (sc.getD (m + 4) 0), .int (sc.getD (m + 3) 0), .int (sc.getD (m + 2) 0), .int (sc.getD (m + 1) 0), .ref 185, .int x1]) (M' := tMem B1 I1 J1) xl527 rfl rfl ?_
  refine sw_0 (pc' := 529) (L' := lwL m) (st' := [.int 5, .int (Int32.ofNat m), .retAddr 0, .int (sc.getD (m + 4) 0), .int (sc.getD (m + 3) 0), .int (sc.getD (m + 2) 0), .int (sc.getD (m + 1) 0), .ref 185, .int x1]) (M' := tMem B1 I1 J1) xl528 rfl rfl ?_
  refine sw_0 (pc' := 530) (L' := lwL m) (st' := [.int (Int32.ofNat m + 5), .retAddr 0, .int (sc.getD (m + 4) 0), .int (sc.getD (m + 3) 0), .int (sc.getD (m + 2) 0), .int (sc.getD (m + 1) 0), .ref 185, .int x1]) (M' := tMem B1 I1 J1) xl529 rfl rfl ?_
  refine sw_ial xl530 (show Int32.ofNat m + 5 = Int32.ofNat (m + 5) from oi_add (b := 5)) (by omega) hl ?_
  refine lw_call (F := fun n v K L => ∃ a, v = some (.int a) ∧ f215_185 n I1 J1 ((sc.getD (m + 1) 0)) ((sc.getD (m + 2) 0)) ((sc.getD (m + 3) 0)) ((sc.getD (m + 4) 0)) ((sc.getD (m + 5) 0)) = some (a, K, L)) (c := nc17) (as := [.ref 185, .int (sc.getD (m + 1) 0), .int (sc.getD (m + 2) 0), .int (sc.getD (m + 3) 0), .int (sc.getD (m + 4) 0), .int (sc.getD (m + 5) 0)]) (rest := [.int x1]) (r' := (xt_215, 8, 3)) xl531 rfl rfl (lw_recv (c := 12) (pB_nok rfl hO1) rfl rfl rfl) rfl rfl rfl nN17 hO1 ⟨_, _, rfl, kv_argr 185, _, _, rfl, kv_arg _, _, _, rfl, kv_arg _, _, _, rfl, kv_arg _, _, _, rfl, kv_arg _, _, _, rfl, kv_arg _, rfl⟩ h51 (fun n => f215_185_pq (pB_nok rfl hO1) rfl) (fun n2 v2 B2 I2 J2 K2 L2 hO2 hA2 hp2 hv2 hF2 hs2 => ?_)
  obtain ⟨x2, rfl, hf2⟩ := hF2
  have h52 : npI [(186, 5, 0, 999)] I2 := hp2
  have hTm := R7_mid hA1 (fun _ => ⟨rfl, rfl⟩) hR
  obtain ⟨hE, hT1⟩ := pour_rel hTm hf1 hf2
  have hR2 := R7_end hA2 hs1 hs2 (fun _ => ⟨rfl, rfl⟩) hT1
  have he : x1 = x2 := hE
  refine sw_cmp (p := 2214) xl534 (by rw [xc_eq he]; rfl) ?_
  exact hb B2 I2 J2 ⟨hO2, h52, hR2⟩ ⟨hA2.2.2.1.trans hA1.2.2.1, hA2.2.2.2.trans hA1.2.2.2⟩
set_option maxRecDepth 100000 in
theorem lwc7 {sc : List Int32} {B : xM} {I : tI} {J : tJ} {m : Nat} {Q : Option Value → xM → Prop} (hm : m + 6 ≤ sc.length) (hl : sc.length ≤ 3072) (hI : LInv R7 sc B I J) (hb : ∀ B' I' J', LInv R7 sc B' I' J' → kSz B B' → sw sc rLawX 2214 (lwL m) [] (tMem B' I' J') Q) : sw sc rLawX 539 (lwL m) [] (tMem B I J) Q := by
  obtain ⟨hO, h5, hR⟩ := hI
  refine sw_0 (pc' := 540) (L' := lwL m) (st' := [.ref 0]) (M' := tMem B I J) xl539 rfl rfl ?_
  refine sw_0 (pc' := 541) (L' := lwL m) (st' := [.retAddr 0, .ref 0]) (M' := tMem B I J) xl540 rfl rfl ?_
  refine sw_0 (pc' := 542) (L' := lwL m) (st' := [.int (Int32.ofNat m), .retAddr 0, .ref 0]) (M' := tMem B I J) xl541 rfl rfl ?_
  refine sw_0 (pc' := 543) (L' := lwL m) (st' := [.int 1, .int (Int32.ofNat m), .retAddr 0, .ref 0]) (M' := tMem B I J) xl542 rfl rfl ?_
  refine sw_0 (pc' := 544) (L' := lwL m) (st' := [.int (Int32.ofNat m + 1), .retAddr 0, .ref 0]) (M' := tMem B I J) xl543 rfl rfl ?_
  refine sw_ial xl544 (show Int32.ofNat m + 1 = Int32.ofNat (m + 1) from oi_add (b := 1)) (by omega) hl ?_
  refine sw_0 (pc' := 546) (L' := lwL m) (st' := [.retAddr 0, .int (sc.getD (m + 1) 0), .ref 0]) (M' := tMem B I J) xl545 rfl rfl ?_
  refine sw_0 (pc' := 547) (L' := lwL m) (st' := [.int (Int32.ofNat m), .retAddr 0, .int (sc.getD (m + 1) 0), .ref 0]) (M' := tMem B I J) xl546 rfl rfl ?_
  refine sw_0 (pc' := 548) (L' := lwL m) (st' := [.int 2, .int (Int32.ofNat m), .retAddr 0, .int (sc.getD (m + 1) 0), .ref 0]) (M' := tMem B I J) xl547 rfl rfl ?_
  refine sw_0 (pc' := 549) (L' := lwL m) (st' := [.int (Int32.ofNat m + 2), .retAddr 0, .int (sc.getD (m + 1) 0), .ref 0]) (M' := tMem B I J) xl548 rfl rfl ?_
  refine sw_ial xl549 (show Int32.ofNat m + 2 = Int32.ofNat (m + 2) from oi_add (b := 2)) (by omega) hl ?_
  refine sw_0 (pc' := 551) (L' := lwL m) (st' := [.retAddr 0, .int (sc.getD (m + 2) 0), .int (sc.getD (m + 1) 0), .ref 0]) (M' := tMem B I J) xl550 rfl rfl ?_
  refine sw_0 (pc' := 552) (L' := lwL m) (st' := [.int (Int32.ofNat m), .retAddr 0, .int (sc.getD (m + 2) 0), .int (sc.getD (m + 1) 0), .ref 0]) (M' := tMem B I J) xl551 rfl rfl ?_
  refine sw_0 (pc' := 553) (L' := lwL m) (st' := [.int 3, .int (Int32.ofNat m), .retAddr 0, .int (sc.getD (m + 2) 0), .int (sc.getD (m + 1) 0), .ref 0]) (M' := tMem B I J) xl552 rfl rfl ?_
  refine sw_0 (pc' := 554) (L' := lwL m) (st' := [.int (Int32.ofNat m + 3), .retAddr 0, .int (sc.getD (m + 2) 0), .int (sc.getD (m + 1) 0), .ref 0]) (M' := tMem B I J) xl553 rfl rfl ?_
  refine sw_ial xl554 (show Int32.ofNat m + 3 = Int32.ofNat (m + 3) from oi_add (b := 3)) (by omega) hl ?_
  refine sw_0 (pc' := 556) (L' := lwL m) (st' := [.retAddr 0, .int (sc.getD (m + 3) 0), .int (sc.getD (m + 2) 0), .int (sc.getD (m + 1) 0), .ref 0]) (M' := tMem B I J) xl555 rfl rfl ?_
  refine sw_0 (pc' := 557) (L' := lwL m) (st' := [.int (Int32.ofNat m), .retAddr 0, .int (sc.getD (m + 3) 0), .int (sc.getD (m + 2) 0), .int (sc.getD (m + 1) 0), .ref 0]) (M' := tMem B I J) xl556 rfl rfl ?_
  refine sw_0 (pc' := 558) (L' := lwL m) (st' := [.int 4, .int (Int32.ofNat m), .retAddr 0, .int (sc.getD (m + 3) 0), .int (sc.getD (m + 2) 0), .int (sc.getD (m + 1) 0), .ref 0]) (M' := tMem B I J) xl557 rfl rfl ?_
  refine sw_0 (pc' := 559) (L' := lwL m) (st' := [.int (Int32.ofNat m + 4), .retAddr 0, .int (sc.getD (m + 3) 0), .int (sc.getD (m + 2) 0), .int (sc.getD (m + 1) 0), .ref 0]) (M' := tMem B I J) xl558 rfl rfl ?_
  refine sw_ial xl559 (show Int32.ofNat m + 4 = Int32.ofNat (m + 4) from oi_add (b := 4)) (by omega) hl ?_
  refine sw_0 (pc' := 561) (L' := lwL m) (st' := [.retAddr 0, .int (sc.getD (m + 4) 0), .int (sc.getD (m + 3) 0), .int (sc.getD (m + 2) 0), .int (sc.getD (m + 1) 0), .ref 0]) (M' := tMem B I J) xl560 rfl rfl ?_
  refine sw_0 (pc' := 562) (L' := lwL m) (st' := [.int (Int32.ofNat m), .retAddr 0, .int (sc.getD (m + 4) 0), .int (sc.getD (m + 3) 0), .int (sc.getD (m + 2) 0), .int (sc.getD (m + 1) 0), .ref 0]) (M' := tMem B I J) xl561 rfl rfl ?_
  refine sw_0 (pc' := 563) (L' := lwL m) (st' := [.int 5, .int (Int32.ofNat m), .retAddr 0, .int (sc.getD (m + 4) 0), .int (sc.getD (m + 3) 0), .int (sc.getD (m + 2) 0), .int (sc.getD (m + 1) 0), .ref 0]) (M' := tMem B I J) xl562 rfl rfl ?_
  refine sw_0 (pc' := 564) (L' := lwL m) (st' := [.int (Int32.ofNat m + 5), .retAddr 0, .int (sc.getD (m + 4) 0), .int (sc.getD (m + 3) 0), .int (sc.getD (m + 2) 0), .int (sc.getD (m + 1) 0), .ref 0]) (M' := tMem B I J) xl563 rfl rfl ?_
  refine sw_ial xl564 (show Int32.ofNat m + 5 = Int32.ofNat (m + 5) from oi_add (b := 5)) (by omega) hl ?_
  refine lw_call0 (c := nc19) (as := [.ref 0, .int (sc.getD (m + 1) 0), .int (sc.getD (m + 2) 0), .int (sc.getD (m + 3) 0), .int (sc.getD (m + 4) 0), .int (sc.getD (m + 5) 0)]) (rest := []) (r' := (xt_141, 6, 1)) xl565 rfl rfl (lw_recv (c := 11) (pB_nok rfl hO) rfl rfl rfl) rfl rfl rfl nN19 hO ⟨_, _, rfl, kv_argr 0, _, _, rfl, kv_arg _, _, _, rfl, kv_arg _, _, _, rfl, kv_arg _, _, _, rfl, kv_arg _, _, _, rfl, kv_arg _, rfl⟩ (fun q hq => by cases hq) (fun v1 B1 I1 J1 hO1 hA1 hp1 hv1 => ?_)
  obtain ⟨x1, rfl, -, -⟩ := kvo_i hv1
  have h51 : npI [(186, 5, 0, 999)] I1 := npI_cg h5 (hA1.1 186 5 rfl).1
  refine sw_0 (pc' := 569) (L' := lwL m) (st' := []) (M' := tMem B1 I1 J1) xl568 rfl rfl ?_
  refine sw_0 (pc' := 570) (L' := lwL m) (st' := [.ref 185]) (M' := tMem B1 I1 J1) xl569 rfl rfl ?_
  refine sw_0 (pc' := 571) (L' := lwL m) (st' := [.retAddr 0, .ref 185]) (M' := tMem B1 I1 J1) xl570 rfl rfl ?_
  refine sw_0 (pc' := 572) (L' := lwL m) (st' := [.int (Int32.ofNat m), .retAddr 0, .ref 185]) (M' := tMem B1 I1 J1) xl571 rfl rfl ?_
  refine sw_0 (pc' := 573) (L' := lwL m) (st' := [.int 1, .int (Int32.ofNat m), .retAddr 0, .ref 185]) (M' := tMem B1 I1 J1) xl572 rfl rfl ?_
  refine sw_0 (pc' := 574) (L' := lwL m) (st' := [.int (Int32.ofNat m + 1), .retAddr 0, .ref 185]) (M' := tMem B1 I1 J1) xl573 rfl rfl ?_
  refine sw_ial xl574 (show Int32.ofNat m + 1 = Int32.ofNat (m + 1) from oi_add (b := 1)) (by omega) hl ?_
  refine sw_0 (pc' := 576) (L' := lwL m) (st' := [.retAddr 0, .int (sc.getD (m + 1) 0), .ref 185]) (M' := tMem B1 I1 J1) xl575 rfl rfl ?_
  refine sw_0 (pc' := 577) (L' := lwL m) (st' := [.int (Int32.ofNat m), .retAddr 0, .int (sc.getD (m + 1) 0), .ref 185]) (M' := tMem B1 I1 J1) xl576 rfl rfl ?_
  refine sw_0 (pc' := 578) (L' := lwL m) (st' := [.int 2, .int (Int32.ofNat m), .retAddr 0, .int (sc.getD (m + 1) 0), .ref 185]) (M' := tMem B1 I1 J1) xl577 rfl rfl ?_
  refine sw_0 (pc' := 579) (L' := lwL m) (st' := [.int (Int32.ofNat m + 2), .retAddr 0, .int (sc.getD (m + 1) 0), .ref 185]) (M' := tMem B1 I1 J1) xl578 rfl rfl ?_
  refine sw_ial xl579 (show Int32.ofNat m + 2 = Int32.ofNat (m + 2) from oi_add (b := 2)) (by omega) hl ?_
  refine sw_0 (pc' := 581) (L' := lwL m) (st' := [.retAddr 0, .int (sc.getD (m + 2) 0), .int (sc.getD (m + 1) 0), .ref 185]) (M' := tMem B1 I1 J1) xl580 rfl rfl ?_
  refine sw_0 (pc' := 582) (L' := lwL m) (st' := [.int (Int32.ofNat m), .retAddr 0, .int (sc.getD (m + 2) 0), .int (sc.getD (m + 1) 0), .ref 185]) (M' := tMem B1 I1 J1) xl581 rfl rfl ?_
  refine sw_0 (pc' := 583) (L' := lwL m) (st' := [.int 3, .int (Int32.ofNat m), .retAddr 0, .int (sc.getD (m + 2) 0), .int (sc.getD (m + 1) 0), .ref 185]) (M' := tMem B1 I1 J1) xl582 rfl rfl ?_
  refine sw_0 (pc' := 584) (L' := lwL m) (st' := [.int (Int32.ofNat m + 3), .retAddr 0, .int (sc.getD (m + 2) 0), .int (sc.getD (m + 1) 0), .ref 185]) (M' := tMem B1 I1 J1) xl583 rfl rfl ?_
  refine sw_ial xl584 (show Int32.ofNat m + 3 = Int32.ofNat (m + 3) from oi_add (b := 3)) (by omega) hl ?_
  refine sw_0 (pc' := 586) (L' := lwL m) (st' := [.retAddr 0, .int (sc.getD (m + 3) 0), .int (sc.getD (m + 2) 0), .int (sc.getD (m + 1) 0), .ref 185]) (M' := tMem B1 I1 J1) xl585 rfl rfl ?_
  refine sw_0 (pc' := 587) (L' := lwL m) (st' := [.int (Int32.ofNat m), .retAddr 0, .int (sc.getD (m + 3) 0), .int (sc.getD (m + 2) 0), .int (sc.getD (m + 1) 0), .ref 185]) (M' := tMem B1 I1 J1) xl586 rfl rfl ?_
  refine sw_0 (pc' := 588) (L' := lwL m) (st' := [.int 4, .int (Int32.ofNat m), .retAddr 0, .int (sc.getD (m + 3) 0), .int (sc.getD (m + 2) 0), .int (sc.getD (m + 1) 0), .ref 185]) (M' := tMem B1 I1 J1) xl587 rfl rfl ?_
  refine sw_0 (pc' := 589) (L' := lwL m) (st' := [.int (Int32.ofNat m + 4), .retAddr 0, .int (sc.getD (m + 3) 0), .int (sc.getD (m + 2) 0), .int (sc.getD (m + 1) 0), .ref 185]) (M' := tMem B1 I1 J1) xl588 rfl rfl ?_
  refine sw_ial xl589 (show Int32.ofNat m + 4 = Int32.ofNat (m + 4) from oi_add (b := 4)) (by omega) hl ?_
  refine sw_0 (pc' := 591) (L' := lwL m) (st' := [.retAddr 0, .int (sc.getD (m + 4) 0), .int (sc.getD (m + 3) 0), .int (sc.getD (m + 2) 0), .int (sc.getD (m + 1) 0), .ref 185]) (M' := tMem B1 I1 J1) xl590 rfl rfl ?_
  refine sw_0 (pc' := 592) (L' := lwL m) (st' := [.int (Int32.ofNat m), .retAddr 0, .int (sc.getD (m + 4) 0), .int (sc.getD (m + 3) 0), .int (sc.getD (m + 2) 0), .int (sc.getD (m + 1) 0), .ref 185]) (M' := tMem B1 I1 J1) xl591 rfl rfl ?_
  refine sw_0 (pc' := 593) (L' := lwL m) (st' := [.int 5, .int (Int32.ofNat m), .retAddr 0, .int (sc.getD (m + 4) 0), .int (sc.getD (m + 3) 0), .int (sc.getD (m + 2) 0), .int (sc.getD (m + 1) 0), .ref 185]) (M' := tMem B1 I1 J1) xl592 rfl rfl ?_
  refine sw_0 (pc' := 594) (L' := lwL m) (st' := [.int (Int32.ofNat m + 5), .retAddr 0, .int (sc.getD (m + 4) 0), .int (sc.getD (m + 3) 0), .int (sc.getD (m + 2) 0), .int (sc.getD (m + 1) 0), .ref 185]) (M' := tMem B1 I1 J1) xl593 rfl rfl ?_
  refine sw_ial xl594 (show Int32.ofNat m + 5 = Int32.ofNat (m + 5) from oi_add (b := 5)) (by omega) hl ?_
  refine lw_call0 (c := nc20) (as := [.ref 185, .int (sc.getD (m + 1) 0), .int (sc.getD (m + 2) 0), .int (sc.getD (m + 3) 0), .int (sc.getD (m + 4) 0), .int (sc.getD (m + 5) 0)]) (rest := []) (r' := (xt_217, 6, 1)) xl595 rfl rfl (lw_recv (c := 12) (pB_nok rfl hO1) rfl rfl rfl) rfl rfl rfl nN20 hO1 ⟨_, _, rfl, kv_argr 185, _, _, rfl, kv_arg _, _, _, rfl, kv_arg _, _, _, rfl, kv_arg _, _, _, rfl, kv_arg _, _, _, rfl, kv_arg _, rfl⟩ h51 (fun v2 B2 I2 J2 hO2 hA2 hp2 hv2 => ?_)
  obtain ⟨x2, rfl, -, -⟩ := kvo_i hv2
  have h52 : npI [(186, 5, 0, 999)] I2 := hp2
  have hR1 := R7_ag hA1 (fun _ => ⟨rfl, rfl, rfl, rfl⟩) hR
  have hR2 := R7_ag hA2 (fun _ => ⟨rfl, rfl, rfl, rfl⟩) hR1
  refine sw_0 (pc' := 599) (L' := lwL m) (st' := []) (M' := tMem B2 I2 J2) xl598 rfl rfl ?_
  refine sw_0 (pc' := 2214) (L' := lwL m) (st' := []) (M' := tMem B2 I2 J2) xl599 rfl rfl ?_
  exact hb B2 I2 J2 ⟨hO2, h52, hR2⟩ ⟨hA2.2.2.1.trans hA1.2.2.1, hA2.2.2.2.trans hA1.2.2.2⟩
set_option maxRecDepth 100000 in
theorem lwc8 {sc : List Int32} {B : xM} {I : tI} {J : tJ} {m : Nat} {Q : Option Value → xM → Prop} (hm : m + 6 ≤ sc.length) (hl : sc.length ≤ 3072) (hI : LInv R7 sc B I J) (hb : ∀ B' I' J', LInv R7 sc B' I' J' → kSz B B' → sw sc rLawX 2214 (lwL m) [] (tMem B' I' J') Q) : sw sc rLawX 602 (lwL m) [] (tMem B I J) Q := by
  obtain ⟨hO, h5, hR⟩ := hI
  refine sw_0 (pc' := 603) (L' := lwL m) (st' := [.ref 0]) (M' := tMem B I J) xl602 rfl rfl ?_
  refine sw_0 (pc' := 604) (L' := lwL m) (st' := [.retAddr 0, .ref 0]) (M' := tMem B I J) xl603 rfl rfl ?_
  refine sw_0 (pc' := 605) (L' := lwL m) (st' := [.int (Int32.ofNat m), .retAddr 0, .ref 0]) (M' := tMem B I J) xl604 rfl rfl ?_
  refine sw_0 (pc' := 606) (L' := lwL m) (st' := [.int 1, .int (Int32.ofNat m), .retAddr 0, .ref 0]) (M' := tMem B I J) xl605 rfl rfl ?_
  refine sw_0 (pc' := 607) (L' := lwL m) (st' := [.int (Int32.ofNat m + 1), .retAddr 0, .ref 0]) (M' := tMem B I J) xl606 rfl rfl ?_
  refine sw_ial xl607 (show Int32.ofNat m + 1 = Int32.ofNat (m + 1) from oi_add (b := 1)) (by omega) hl ?_
  refine lw_call0 (c := nc44) (as := [.ref 0, .int (sc.getD (m + 1) 0)]) (rest := []) (r' := (xt_143, 3, 1)) xl608 rfl rfl (lw_recv (c := 11) (pB_nok rfl hO) rfl rfl rfl) rfl rfl rfl nN44 hO ⟨_, _, rfl, kv_argr 0, _, _, rfl, kv_arg _, rfl⟩ (fun q hq => by cases hq) (fun v1 B1 I1 J1 hO1 hA1 hp1 hv1 => ?_)
  obtain ⟨x1, rfl, -, -⟩ := kvo_i hv1
  have h51 : npI [(186, 5, 0, 999)] I1 := npI_cg h5 (hA1.1 186 5 rfl).1
  refine sw_0 (pc' := 612) (L' := lwL m) (st' := []) (M' := tMem B1 I1 J1) xl611 rfl rfl ?_
  refine sw_0 (pc' := 613) (L' := lwL m) (st' := [.ref 185]) (M' := tMem B1 I1 J1) xl612 rfl rfl ?_
  refine sw_0 (pc' := 614) (L' := lwL m) (st' := [.retAddr 0, .ref 185]) (M' := tMem B1 I1 J1) xl613 rfl rfl ?_
  refine sw_0 (pc' := 615) (L' := lwL m) (st' := [.int (Int32.ofNat m), .retAddr 0, .ref 185]) (M' := tMem B1 I1 J1) xl614 rfl rfl ?_
  refine sw_0 (pc' := 616) (L' := lwL m) (st' := [.int 1, .int (Int32.ofNat m), .retAddr 0, .ref 185]) (M' := tMem B1 I1 J1) xl615 rfl rfl ?_
  refine sw_0 (pc' := 617) (L' := lwL m) (st' := [.int (Int32.ofNat m + 1), .retAddr 0, .ref 185]) (M' := tMem B1 I1 J1) xl616 rfl rfl ?_
  refine sw_ial xl617 (show Int32.ofNat m + 1 = Int32.ofNat (m + 1) from oi_add (b := 1)) (by omega) hl ?_
  refine lw_call0 (c := nc69) (as := [.ref 185, .int (sc.getD (m + 1) 0)]) (rest := []) (r' := (xt_244, 4, 1)) xl618 rfl rfl (lw_recv (c := 12) (pB_nok rfl hO1) rfl rfl rfl) rfl rfl rfl nN69 hO1 ⟨_, _, rfl, kv_argr 185, _, _, rfl, kv_arg _, rfl⟩ h51 (fun v2 B2 I2 J2 hO2 hA2 hp2 hv2 => ?_)
  obtain ⟨x2, rfl, -, -⟩ := kvo_i hv2
  have h52 : npI [(186, 5, 0, 999)] I2 := hp2
  have hR1 := R7_ag hA1 (fun _ => ⟨rfl, rfl, rfl, rfl⟩) hR
  have hR2 := R7_ag hA2 (fun _ => ⟨rfl, rfl, rfl, rfl⟩) hR1
  refine sw_0 (pc' := 622) (L' := lwL m) (st' := []) (M' := tMem B2 I2 J2) xl621 rfl rfl ?_
  refine sw_0 (pc' := 2214) (L' := lwL m) (st' := []) (M' := tMem B2 I2 J2) xl622 rfl rfl ?_
  exact hb B2 I2 J2 ⟨hO2, h52, hR2⟩ ⟨hA2.2.2.1.trans hA1.2.2.1, hA2.2.2.2.trans hA1.2.2.2⟩
set_option maxRecDepth 100000 in
theorem lwc9 {sc : List Int32} {B : xM} {I : tI} {J : tJ} {m : Nat} {Q : Option Value → xM → Prop} (hm : m + 6 ≤ sc.length) (hl : sc.length ≤ 3072) (hI : LInv R7 sc B I J) (hb : ∀ B' I' J', LInv R7 sc B' I' J' → kSz B B' → sw sc rLawX 2214 (lwL m) [] (tMem B' I' J') Q) : sw sc rLawX 625 (lwL m) [] (tMem B I J) Q := by
  obtain ⟨hO, h5, hR⟩ := hI
  refine sw_0 (pc' := 626) (L' := lwL m) (st' := [.ref 0]) (M' := tMem B I J) xl625 rfl rfl ?_
  refine sw_0 (pc' := 627) (L' := lwL m) (st' := [.retAddr 0, .ref 0]) (M' := tMem B I J) xl626 rfl rfl ?_
  refine sw_0 (pc' := 628) (L' := lwL m) (st' := [.int (Int32.ofNat m), .retAddr 0, .ref 0]) (M' := tMem B I J) xl627 rfl rfl ?_
  refine sw_0 (pc' := 629) (L' := lwL m) (st' := [.int 1, .int (Int32.ofNat m), .retAddr 0, .ref 0]) (M' := tMem B I J) xl628 rfl rfl ?_
  refine sw_0 (pc' := 630) (L' := lwL m) (st' := [.int (Int32.ofNat m + 1), .retAddr 0, .ref 0]) (M' := tMem B I J) xl629 rfl rfl ?_
  refine sw_ial xl630 (show Int32.ofNat m + 1 = Int32.ofNat (m + 1) from oi_add (b := 1)) (by omega) hl ?_
  refine lw_call0 (c := nc75) (as := [.ref 0, .int (sc.getD (m + 1) 0)]) (rest := []) (r' := (xt_144, 3, 1)) xl631 rfl rfl (lw_recv (c := 11) (pB_nok rfl hO) rfl rfl rfl) rfl rfl rfl nN75 hO ⟨_, _, rfl, kv_argr 0, _, _, rfl, kv_arg _, rfl⟩ (fun q hq => by cases hq) (fun v1 B1 I1 J1 hO1 hA1 hp1 hv1 => ?_)
  obtain ⟨x1, rfl, -, -⟩ := kvo_i hv1
  have h51 : npI [(186, 5, 0, 999)] I1 := npI_cg h5 (hA1.1 186 5 rfl).1
  refine sw_0 (pc' := 635) (L' := lwL m) (st' := []) (M' := tMem B1 I1 J1) xl634 rfl rfl ?_
  refine sw_0 (pc' := 636) (L' := lwL m) (st' := [.ref 185]) (M' := tMem B1 I1 J1) xl635 rfl rfl ?_
  refine sw_0 (pc' := 637) (L' := lwL m) (st' := [.retAddr 0, .ref 185]) (M' := tMem B1 I1 J1) xl636 rfl rfl ?_
  refine sw_0 (pc' := 638) (L' := lwL m) (st' := [.int (Int32.ofNat m), .retAddr 0, .ref 185]) (M' := tMem B1 I1 J1) xl637 rfl rfl ?_
  refine sw_0 (pc' := 639) (L' := lwL m) (st' := [.int 1, .int (Int32.ofNat m), .retAddr 0, .ref 185]) (M' := tMem B1 I1 J1) xl638 rfl rfl ?_
  refine sw_0 (pc' := 640) (L' := lwL m) (st' := [.int (Int32.ofNat m + 1), .retAddr 0, .ref 185]) (M' := tMem B1 I1 J1) xl639 rfl rfl ?_
  refine sw_ial xl640 (show Int32.ofNat m + 1 = Int32.ofNat (m + 1) from oi_add (b := 1)) (by omega) hl ?_
  refine lw_call0 (c := nc80) (as := [.ref 185, .int (sc.getD (m + 1) 0)]) (rest := []) (r' := (xt_250, 4, 1)) xl641 rfl rfl (lw_recv (c := 12) (pB_nok rfl hO1) rfl rfl rfl) rfl rfl rfl nN80 hO1 ⟨_, _, rfl, kv_argr 185, _, _, rfl, kv_arg _, rfl⟩ h51 (fun v2 B2 I2 J2 hO2 hA2 hp2 hv2 => ?_)
  obtain ⟨x2, rfl, -, -⟩ := kvo_i hv2
  have h52 : npI [(186, 5, 0, 999)] I2 := hp2
  have hR1 := R7_ag hA1 (fun _ => ⟨rfl, rfl, rfl, rfl⟩) hR
  have hR2 := R7_ag hA2 (fun _ => ⟨rfl, rfl, rfl, rfl⟩) hR1
  refine sw_0 (pc' := 645) (L' := lwL m) (st' := []) (M' := tMem B2 I2 J2) xl644 rfl rfl ?_
  refine sw_0 (pc' := 2214) (L' := lwL m) (st' := []) (M' := tMem B2 I2 J2) xl645 rfl rfl ?_
  exact hb B2 I2 J2 ⟨hO2, h52, hR2⟩ ⟨hA2.2.2.1.trans hA1.2.2.1, hA2.2.2.2.trans hA1.2.2.2⟩
set_option maxRecDepth 100000 in
theorem lwc10 {sc : List Int32} {B : xM} {I : tI} {J : tJ} {m : Nat} {Q : Option Value → xM → Prop} (hm : m + 6 ≤ sc.length) (hl : sc.length ≤ 3072) (hI : LInv R7 sc B I J) (hb : ∀ B' I' J', LInv R7 sc B' I' J' → kSz B B' → sw sc rLawX 2214 (lwL m) [] (tMem B' I' J') Q) : sw sc rLawX 648 (lwL m) [] (tMem B I J) Q := by
  obtain ⟨hO, h5, hR⟩ := hI
  refine sw_0 (pc' := 649) (L' := lwL m) (st' := [.ref 0]) (M' := tMem B I J) xl648 rfl rfl ?_
  refine sw_0 (pc' := 650) (L' := lwL m) (st' := [.retAddr 0, .ref 0]) (M' := tMem B I J) xl649 rfl rfl ?_
  refine sw_0 (pc' := 651) (L' := lwL m) (st' := [.int (Int32.ofNat m), .retAddr 0, .ref 0]) (M' := tMem B I J) xl650 rfl rfl ?_
  refine sw_0 (pc' := 652) (L' := lwL m) (st' := [.int 1, .int (Int32.ofNat m), .retAddr 0, .ref 0]) (M' := tMem B I J) xl651 rfl rfl ?_
  refine sw_0 (pc' := 653) (L' := lwL m) (st' := [.int (Int32.ofNat m + 1), .retAddr 0, .ref 0]) (M' := tMem B I J) xl652 rfl rfl ?_
  refine sw_ial xl653 (show Int32.ofNat m + 1 = Int32.ofNat (m + 1) from oi_add (b := 1)) (by omega) hl ?_
  refine lw_call0 (c := nc81) (as := [.ref 0, .int (sc.getD (m + 1) 0)]) (rest := []) (r' := (xt_146, 2, 1)) xl654 rfl rfl (lw_recv (c := 11) (pB_nok rfl hO) rfl rfl rfl) rfl rfl rfl nN81 hO ⟨_, _, rfl, kv_argr 0, _, _, rfl, kv_arg _, rfl⟩ (fun q hq => by cases hq) (fun v1 B1 I1 J1 hO1 hA1 hp1 hv1 => ?_)
  obtain ⟨x1, rfl, -, -⟩ := kvo_i hv1
  have h51 : npI [(186, 5, 0, 999)] I1 := npI_cg h5 (hA1.1 186 5 rfl).1
  refine sw_0 (pc' := 658) (L' := lwL m) (st' := []) (M' := tMem B1 I1 J1) xl657 rfl rfl ?_
  refine sw_0 (pc' := 659) (L' := lwL m) (st' := [.ref 185]) (M' := tMem B1 I1 J1) xl658 rfl rfl ?_
  refine sw_0 (pc' := 660) (L' := lwL m) (st' := [.retAddr 0, .ref 185]) (M' := tMem B1 I1 J1) xl659 rfl rfl ?_
  refine sw_0 (pc' := 661) (L' := lwL m) (st' := [.int (Int32.ofNat m), .retAddr 0, .ref 185]) (M' := tMem B1 I1 J1) xl660 rfl rfl ?_
  refine sw_0 (pc' := 662) (L' := lwL m) (st' := [.int 1, .int (Int32.ofNat m), .retAddr 0, .ref 185]) (M' := tMem B1 I1 J1) xl661 rfl rfl ?_
  refine sw_0 (pc' := 663) (L' := lwL m) (st' := [.int (Int32.ofNat m + 1), .retAddr 0, .ref 185]) (M' := tMem B1 I1 J1) xl662 rfl rfl ?_
  refine sw_ial xl663 (show Int32.ofNat m + 1 = Int32.ofNat (m + 1) from oi_add (b := 1)) (by omega) hl ?_
  refine lw_call0 (c := nc82) (as := [.ref 185, .int (sc.getD (m + 1) 0)]) (rest := []) (r' := (xt_233, 2, 1)) xl664 rfl rfl (lw_recv (c := 12) (pB_nok rfl hO1) rfl rfl rfl) rfl rfl rfl nN82 hO1 ⟨_, _, rfl, kv_argr 185, _, _, rfl, kv_arg _, rfl⟩ h51 (fun v2 B2 I2 J2 hO2 hA2 hp2 hv2 => ?_)
  obtain ⟨x2, rfl, -, -⟩ := kvo_i hv2
  have h52 : npI [(186, 5, 0, 999)] I2 := hp2
  have hR1 := R7_ag hA1 (fun _ => ⟨rfl, rfl, rfl, rfl⟩) hR
  have hR2 := R7_ag hA2 (fun _ => ⟨rfl, rfl, rfl, rfl⟩) hR1
  refine sw_0 (pc' := 668) (L' := lwL m) (st' := []) (M' := tMem B2 I2 J2) xl667 rfl rfl ?_
  refine sw_0 (pc' := 2214) (L' := lwL m) (st' := []) (M' := tMem B2 I2 J2) xl668 rfl rfl ?_
  exact hb B2 I2 J2 ⟨hO2, h52, hR2⟩ ⟨hA2.2.2.1.trans hA1.2.2.1, hA2.2.2.2.trans hA1.2.2.2⟩
set_option maxRecDepth 100000 in
theorem lwc11 {sc : List Int32} {B : xM} {I : tI} {J : tJ} {m : Nat} {Q : Option Value → xM → Prop} (hm : m + 6 ≤ sc.length) (hl : sc.length ≤ 3072) (hI : LInv R7 sc B I J) (hb : ∀ B' I' J', LInv R7 sc B' I' J' → kSz B B' → sw sc rLawX 2214 (lwL m) [] (tMem B' I' J') Q) : sw sc rLawX 671 (lwL m) [] (tMem B I J) Q := by
  obtain ⟨hO, h5, hR⟩ := hI
  refine sw_0 (pc' := 672) (L' := lwL m) (st' := [.ref 0]) (M' := tMem B I J) xl671 rfl rfl ?_
  refine sw_0 (pc' := 673) (L' := lwL m) (st' := [.retAddr 0, .ref 0]) (M' := tMem B I J) xl672 rfl rfl ?_
  refine sw_0 (pc' := 674) (L' := lwL m) (st' := [.int (Int32.ofNat m), .retAddr 0, .ref 0]) (M' := tMem B I J) xl673 rfl rfl ?_
  refine sw_0 (pc' := 675) (L' := lwL m) (st' := [.int 1, .int (Int32.ofNat m), .retAddr 0, .ref 0]) (M' := tMem B I J) xl674 rfl rfl ?_
  refine sw_0 (pc' := 676) (L' := lwL m) (st' := [.int (Int32.ofNat m + 1), .retAddr 0, .ref 0]) (M' := tMem B I J) xl675 rfl rfl ?_
  refine sw_ial xl676 (show Int32.ofNat m + 1 = Int32.ofNat (m + 1) from oi_add (b := 1)) (by omega) hl ?_
  refine lw_call0 (c := nc87) (as := [.ref 0, .int (sc.getD (m + 1) 0)]) (rest := []) (r' := (xt_147, 3, 1)) xl677 rfl rfl (lw_recv (c := 11) (pB_nok rfl hO) rfl rfl rfl) rfl rfl rfl nN87 hO ⟨_, _, rfl, kv_argr 0, _, _, rfl, kv_arg _, rfl⟩ (fun q hq => by cases hq) (fun v1 B1 I1 J1 hO1 hA1 hp1 hv1 => ?_)
  obtain ⟨x1, rfl, -, -⟩ := kvo_i hv1
  have h51 : npI [(186, 5, 0, 999)] I1 := npI_cg h5 (hA1.1 186 5 rfl).1
  refine sw_0 (pc' := 681) (L' := lwL m) (st' := []) (M' := tMem B1 I1 J1) xl680 rfl rfl ?_
  refine sw_0 (pc' := 682) (L' := lwL m) (st' := [.ref 185]) (M' := tMem B1 I1 J1) xl681 rfl rfl ?_
  refine sw_0 (pc' := 683) (L' := lwL m) (st' := [.retAddr 0, .ref 185]) (M' := tMem B1 I1 J1) xl682 rfl rfl ?_
  refine sw_0 (pc' := 684) (L' := lwL m) (st' := [.int (Int32.ofNat m), .retAddr 0, .ref 185]) (M' := tMem B1 I1 J1) xl683 rfl rfl ?_
  refine sw_0 (pc' := 685) (L' := lwL m) (st' := [.int 1, .int (Int32.ofNat m), .retAddr 0, .ref 185]) (M' := tMem B1 I1 J1) xl684 rfl rfl ?_
  refine sw_0 (pc' := 686) (L' := lwL m) (st' := [.int (Int32.ofNat m + 1), .retAddr 0, .ref 185]) (M' := tMem B1 I1 J1) xl685 rfl rfl ?_
  refine sw_ial xl686 (show Int32.ofNat m + 1 = Int32.ofNat (m + 1) from oi_add (b := 1)) (by omega) hl ?_
  refine lw_call0 (c := nc99) (as := [.ref 185, .int (sc.getD (m + 1) 0)]) (rest := []) (r' := (xt_272, 2, 1)) xl687 rfl rfl (lw_recv (c := 12) (pB_nok rfl hO1) rfl rfl rfl) rfl rfl rfl nN99 hO1 ⟨_, _, rfl, kv_argr 185, _, _, rfl, kv_arg _, rfl⟩ h51 (fun v2 B2 I2 J2 hO2 hA2 hp2 hv2 => ?_)
  obtain ⟨x2, rfl, -, -⟩ := kvo_i hv2
  have h52 : npI [(186, 5, 0, 999)] I2 := hp2
  have hR1 := R7_ag hA1 (fun _ => ⟨rfl, rfl, rfl, rfl⟩) hR
  have hR2 := R7_ag hA2 (fun _ => ⟨rfl, rfl, rfl, rfl⟩) hR1
  refine sw_0 (pc' := 691) (L' := lwL m) (st' := []) (M' := tMem B2 I2 J2) xl690 rfl rfl ?_
  refine sw_0 (pc' := 2214) (L' := lwL m) (st' := []) (M' := tMem B2 I2 J2) xl691 rfl rfl ?_
  exact hb B2 I2 J2 ⟨hO2, h52, hR2⟩ ⟨hA2.2.2.1.trans hA1.2.2.1, hA2.2.2.2.trans hA1.2.2.2⟩
set_option maxRecDepth 100000 in
theorem lwc12 {sc : List Int32} {B : xM} {I : tI} {J : tJ} {m : Nat} {Q : Option Value → xM → Prop} (hm : m + 6 ≤ sc.length) (hl : sc.length ≤ 3072) (hI : LInv R7 sc B I J) (hb : ∀ B' I' J', LInv R7 sc B' I' J' → kSz B B' → sw sc rLawX 2214 (lwL m) [] (tMem B' I' J') Q) : sw sc rLawX 694 (lwL m) [] (tMem B I J) Q := by
  obtain ⟨hO, h5, hR⟩ := hI
  refine sw_0 (pc' := 695) (L' := lwL m) (st' := [.ref 0]) (M' := tMem B I J) xl694 rfl rfl ?_
  refine sw_0 (pc' := 696) (L' := lwL m) (st' := [.retAddr 0, .ref 0]) (M' := tMem B I J) xl695 rfl rfl ?_
  refine sw_0 (pc' := 697) (L' := lwL m) (st' := [.int (Int32.ofNat m), .retAddr 0, .ref 0]) (M' := tMem B I J) xl696 rfl rfl ?_
  refine sw_0 (pc' := 698) (L' := lwL m) (st' := [.int 1, .int (Int32.ofNat m), .retAddr 0, .ref 0]) (M' := tMem B I J) xl697 rfl rfl ?_
  refine sw_0 (pc' := 699) (L' := lwL m) (st' := [.int (Int32.ofNat m + 1), .retAddr 0, .ref 0]) (M' := tMem B I J) xl698 rfl rfl ?_
  refine sw_ial xl699 (show Int32.ofNat m + 1 = Int32.ofNat (m + 1) from oi_add (b := 1)) (by omega) hl ?_
  refine sw_0 (pc' := 701) (L' := lwL m) (st' := [.retAddr 0, .int (sc.getD (m + 1) 0), .ref 0]) (M' := tMem B I J) xl700 rfl rfl ?_
  refine sw_0 (pc' := 702) (L' := lwL m) (st' := [.int (Int32.ofNat m), .retAddr 0, .int (sc.getD (m + 1) 0), .ref 0]) (M' := tMem B I J) xl701 rfl rfl ?_
  refine sw_0 (pc' := 703) (L' := lwL m) (st' := [.int 2, .int (Int32.ofNat m), .retAddr 0, .int (sc.getD (m + 1) 0), .ref 0]) (M' := tMem B I J) xl702 rfl rfl ?_
  refine sw_0 (pc' := 704) (L' := lwL m) (st' := [.int (Int32.ofNat m + 2), .retAddr 0, .int (sc.getD (m + 1) 0), .ref 0]) (M' := tMem B I J) xl703 rfl rfl ?_
  refine sw_ial xl704 (show Int32.ofNat m + 2 = Int32.ofNat (m + 2) from oi_add (b := 2)) (by omega) hl ?_
  refine lw_call0 (c := nc101) (as := [.ref 0, .int (sc.getD (m + 1) 0), .int (sc.getD (m + 2) 0)]) (rest := []) (r' := (xt_148, 3, 1)) xl705 rfl rfl (lw_recv (c := 11) (pB_nok rfl hO) rfl rfl rfl) rfl rfl rfl nN101 hO ⟨_, _, rfl, kv_argr 0, _, _, rfl, kv_arg _, _, _, rfl, kv_arg _, rfl⟩ (fun q hq => by cases hq) (fun v1 B1 I1 J1 hO1 hA1 hp1 hv1 => ?_)
  obtain ⟨x1, rfl, -, -⟩ := kvo_i hv1
  have h51 : npI [(186, 5, 0, 999)] I1 := npI_cg h5 (hA1.1 186 5 rfl).1
  refine sw_0 (pc' := 709) (L' := lwL m) (st' := []) (M' := tMem B1 I1 J1) xl708 rfl rfl ?_
  refine sw_0 (pc' := 710) (L' := lwL m) (st' := [.ref 185]) (M' := tMem B1 I1 J1) xl709 rfl rfl ?_
  refine sw_0 (pc' := 711) (L' := lwL m) (st' := [.retAddr 0, .ref 185]) (M' := tMem B1 I1 J1) xl710 rfl rfl ?_
  refine sw_0 (pc' := 712) (L' := lwL m) (st' := [.int (Int32.ofNat m), .retAddr 0, .ref 185]) (M' := tMem B1 I1 J1) xl711 rfl rfl ?_
  refine sw_0 (pc' := 713) (L' := lwL m) (st' := [.int 1, .int (Int32.ofNat m), .retAddr 0, .ref 185]) (M' := tMem B1 I1 J1) xl712 rfl rfl ?_
  refine sw_0 (pc' := 714) (L' := lwL m) (st' := [.int (Int32.ofNat m + 1), .retAddr 0, .ref 185]) (M' := tMem B1 I1 J1) xl713 rfl rfl ?_
  refine sw_ial xl714 (show Int32.ofNat m + 1 = Int32.ofNat (m + 1) from oi_add (b := 1)) (by omega) hl ?_
  refine sw_0 (pc' := 716) (L' := lwL m) (st' := [.retAddr 0, .int (sc.getD (m + 1) 0), .ref 185]) (M' := tMem B1 I1 J1) xl715 rfl rfl ?_
  refine sw_0 (pc' := 717) (L' := lwL m) (st' := [.int (Int32.ofNat m), .retAddr 0, .int (sc.getD (m + 1) 0), .ref 185]) (M' := tMem B1 I1 J1) xl716 rfl rfl ?_
  refine sw_0 (pc' := 718) (L' := lwL m) (st' := [.int 2, .int (Int32.ofNat m), .retAddr 0, .int (sc.getD (m + 1) 0), .ref 185]) (M' := tMem B1 I1 J1) xl717 rfl rfl ?_
  refine sw_0 (pc' := 719) (L' := lwL m) (st' := [.int (Int32.ofNat m + 2), .retAddr 0, .int (sc.getD (m + 1) 0), .ref 185]) (M' := tMem B1 I1 J1) xl718 rfl rfl ?_
  refine sw_ial xl719 (show Int32.ofNat m + 2 = Int32.ofNat (m + 2) from oi_add (b := 2)) (by omega) hl ?_
  refine lw_call0 (c := nc104) (as := [.ref 185, .int (sc.getD (m + 1) 0), .int (sc.getD (m + 2) 0)]) (rest := []) (r' := (xt_273, 3, 1)) xl720 rfl rfl (lw_recv (c := 12) (pB_nok rfl hO1) rfl rfl rfl) rfl rfl rfl nN104 hO1 ⟨_, _, rfl, kv_argr 185, _, _, rfl, kv_arg _, _, _, rfl, kv_arg _, rfl⟩ h51 (fun v2 B2 I2 J2 hO2 hA2 hp2 hv2 => ?_)
  obtain ⟨x2, rfl, -, -⟩ := kvo_i hv2
  have h52 : npI [(186, 5, 0, 999)] I2 := hp2
  have hR1 := R7_ag hA1 (fun _ => ⟨rfl, rfl, rfl, rfl⟩) hR
  have hR2 := R7_ag hA2 (fun _ => ⟨rfl, rfl, rfl, rfl⟩) hR1
  refine sw_0 (pc' := 724) (L' := lwL m) (st' := []) (M' := tMem B2 I2 J2) xl723 rfl rfl ?_
  refine sw_0 (pc' := 2214) (L' := lwL m) (st' := []) (M' := tMem B2 I2 J2) xl724 rfl rfl ?_
  exact hb B2 I2 J2 ⟨hO2, h52, hR2⟩ ⟨hA2.2.2.1.trans hA1.2.2.1, hA2.2.2.2.trans hA1.2.2.2⟩
set_option maxRecDepth 100000 in
theorem lwc13 {sc : List Int32} {B : xM} {I : tI} {J : tJ} {m : Nat} {Q : Option Value → xM → Prop} (hm : m + 6 ≤ sc.length) (hl : sc.length ≤ 3072) (hI : LInv R7 sc B I J) (hb : ∀ B' I' J', LInv R7 sc B' I' J' → kSz B B' → sw sc rLawX 2214 (lwL m) [] (tMem B' I' J') Q) : sw sc rLawX 727 (lwL m) [] (tMem B I J) Q := by
  obtain ⟨hO, h5, hR⟩ := hI
  refine sw_0 (pc' := 728) (L' := lwL m) (st' := [.ref 0]) (M' := tMem B I J) xl727 rfl rfl ?_
  refine sw_0 (pc' := 729) (L' := lwL m) (st' := [.retAddr 0, .ref 0]) (M' := tMem B I J) xl728 rfl rfl ?_
  refine sw_0 (pc' := 730) (L' := lwL m) (st' := [.int (Int32.ofNat m), .retAddr 0, .ref 0]) (M' := tMem B I J) xl729 rfl rfl ?_
  refine sw_0 (pc' := 731) (L' := lwL m) (st' := [.int 1, .int (Int32.ofNat m), .retAddr 0, .ref 0]) (M' := tMem B I J) xl730 rfl rfl ?_
  refine sw_0 (pc' := 732) (L' := lwL m) (st' := [.int (Int32.ofNat m + 1), .retAddr 0, .ref 0]) (M' := tMem B I J) xl731 rfl rfl ?_
  refine sw_ial xl732 (show Int32.ofNat m + 1 = Int32.ofNat (m + 1) from oi_add (b := 1)) (by omega) hl ?_
  refine sw_0 (pc' := 734) (L' := lwL m) (st' := [.retAddr 0, .int (sc.getD (m + 1) 0), .ref 0]) (M' := tMem B I J) xl733 rfl rfl ?_
  refine sw_0 (pc' := 735) (L' := lwL m) (st' := [.int (Int32.ofNat m), .retAddr 0, .int (sc.getD (m + 1) 0), .ref 0]) (M' := tMem B I J) xl734 rfl rfl ?_
  refine sw_0 (pc' := 736) (L' := lwL m) (st' := [.int 2, .int (Int32.ofNat m), .retAddr 0, .int (sc.getD (m + 1) 0), .ref 0]) (M' := tMem B I J) xl735 rfl rfl ?_
  refine sw_0 (pc' := 737) (L' := lwL m) (st' := [.int (Int32.ofNat m + 2), .retAddr 0, .int (sc.getD (m + 1) 0), .ref 0]) (M' := tMem B I J) xl736 rfl rfl ?_
  refine sw_ial xl737 (show Int32.ofNat m + 2 = Int32.ofNat (m + 2) from oi_add (b := 2)) (by omega) hl ?_
  refine lw_call0 (c := nc105) (as := [.ref 0, .int (sc.getD (m + 1) 0), .int (sc.getD (m + 2) 0)]) (rest := []) (r' := (xt_149, 3, 1)) xl738 rfl rfl (lw_recv (c := 11) (pB_nok rfl hO) rfl rfl rfl) rfl rfl rfl nN105 hO ⟨_, _, rfl, kv_argr 0, _, _, rfl, kv_arg _, _, _, rfl, kv_arg _, rfl⟩ (fun q hq => by cases hq) (fun v1 B1 I1 J1 hO1 hA1 hp1 hv1 => ?_)
  obtain ⟨x1, rfl, -, -⟩ := kvo_i hv1
  have h51 : npI [(186, 5, 0, 999)] I1 := npI_cg h5 (hA1.1 186 5 rfl).1
  refine sw_0 (pc' := 742) (L' := lwL m) (st' := []) (M' := tMem B1 I1 J1) xl741 rfl rfl ?_
  refine sw_0 (pc' := 743) (L' := lwL m) (st' := [.ref 185]) (M' := tMem B1 I1 J1) xl742 rfl rfl ?_
  refine sw_0 (pc' := 744) (L' := lwL m) (st' := [.retAddr 0, .ref 185]) (M' := tMem B1 I1 J1) xl743 rfl rfl ?_
  refine sw_0 (pc' := 745) (L' := lwL m) (st' := [.int (Int32.ofNat m), .retAddr 0, .ref 185]) (M' := tMem B1 I1 J1) xl744 rfl rfl ?_
  refine sw_0 (pc' := 746) (L' := lwL m) (st' := [.int 1, .int (Int32.ofNat m), .retAddr 0, .ref 185]) (M' := tMem B1 I1 J1) xl745 rfl rfl ?_
  refine sw_0 (pc' := 747) (L' := lwL m) (st' := [.int (Int32.ofNat m + 1), .retAddr 0, .ref 185]) (M' := tMem B1 I1 J1) xl746 rfl rfl ?_
  refine sw_ial xl747 (show Int32.ofNat m + 1 = Int32.ofNat (m + 1) from oi_add (b := 1)) (by omega) hl ?_
  refine sw_0 (pc' := 749) (L' := lwL m) (st' := [.retAddr 0, .int (sc.getD (m + 1) 0), .ref 185]) (M' := tMem B1 I1 J1) xl748 rfl rfl ?_
  refine sw_0 (pc' := 750) (L' := lwL m) (st' := [.int (Int32.ofNat m), .retAddr 0, .int (sc.getD (m + 1) 0), .ref 185]) (M' := tMem B1 I1 J1) xl749 rfl rfl ?_
  refine sw_0 (pc' := 751) (L' := lwL m) (st' := [.int 2, .int (Int32.ofNat m), .retAddr 0, .int (sc.getD (m + 1) 0), .ref 185]) (M' := tMem B1 I1 J1) xl750 rfl rfl ?_
  refine sw_0 (pc' := 752) (L' := lwL m) (st' := [.int (Int32.ofNat m + 2), .retAddr 0, .int (sc.getD (m + 1) 0), .ref 185]) (M' := tMem B1 I1 J1) xl751 rfl rfl ?_
  refine sw_ial xl752 (show Int32.ofNat m + 2 = Int32.ofNat (m + 2) from oi_add (b := 2)) (by omega) hl ?_
  refine lw_call0 (c := nc106) (as := [.ref 185, .int (sc.getD (m + 1) 0), .int (sc.getD (m + 2) 0)]) (rest := []) (r' := (xt_274, 3, 1)) xl753 rfl rfl (lw_recv (c := 12) (pB_nok rfl hO1) rfl rfl rfl) rfl rfl rfl nN106 hO1 ⟨_, _, rfl, kv_argr 185, _, _, rfl, kv_arg _, _, _, rfl, kv_arg _, rfl⟩ h51 (fun v2 B2 I2 J2 hO2 hA2 hp2 hv2 => ?_)
  obtain ⟨x2, rfl, -, -⟩ := kvo_i hv2
  have h52 : npI [(186, 5, 0, 999)] I2 := hp2
  have hR1 := R7_ag hA1 (fun _ => ⟨rfl, rfl, rfl, rfl⟩) hR
  have hR2 := R7_ag hA2 (fun _ => ⟨rfl, rfl, rfl, rfl⟩) hR1
  refine sw_0 (pc' := 757) (L' := lwL m) (st' := []) (M' := tMem B2 I2 J2) xl756 rfl rfl ?_
  refine sw_0 (pc' := 2214) (L' := lwL m) (st' := []) (M' := tMem B2 I2 J2) xl757 rfl rfl ?_
  exact hb B2 I2 J2 ⟨hO2, h52, hR2⟩ ⟨hA2.2.2.1.trans hA1.2.2.1, hA2.2.2.2.trans hA1.2.2.2⟩
set_option maxRecDepth 100000 in
theorem lwc14 {sc : List Int32} {B : xM} {I : tI} {J : tJ} {m : Nat} {Q : Option Value → xM → Prop} (hm : m + 6 ≤ sc.length) (hl : sc.length ≤ 3072) (hI : LInv R7 sc B I J) (hb : ∀ B' I' J', LInv R7 sc B' I' J' → kSz B B' → sw sc rLawX 2214 (lwL m) [] (tMem B' I' J') Q) : sw sc rLawX 760 (lwL m) [] (tMem B I J) Q := by
  obtain ⟨hO, h5, hR⟩ := hI
  refine sw_0 (pc' := 761) (L' := lwL m) (st' := [.ref 0]) (M' := tMem B I J) xl760 rfl rfl ?_
  refine sw_0 (pc' := 762) (L' := lwL m) (st' := [.retAddr 0, .ref 0]) (M' := tMem B I J) xl761 rfl rfl ?_
  refine sw_0 (pc' := 763) (L' := lwL m) (st' := [.int (Int32.ofNat m), .retAddr 0, .ref 0]) (M' := tMem B I J) xl762 rfl rfl ?_
  refine sw_0 (pc' := 764) (L' := lwL m) (st' := [.int 1, .int (Int32.ofNat m), .retAddr 0, .ref 0]) (M' := tMem B I J) xl763 rfl rfl ?_
  refine sw_0 (pc' := 765) (L' := lwL m) (st' := [.int (Int32.ofNat m + 1), .retAddr 0, .ref 0]) (M' := tMem B I J) xl764 rfl rfl ?_
  refine sw_ial xl765 (show Int32.ofNat m + 1 = Int32.ofNat (m + 1) from oi_add (b := 1)) (by omega) hl ?_
  refine sw_0 (pc' := 767) (L' := lwL m) (st' := [.retAddr 0, .int (sc.getD (m + 1) 0), .ref 0]) (M' := tMem B I J) xl766 rfl rfl ?_
  refine sw_0 (pc' := 768) (L' := lwL m) (st' := [.int (Int32.ofNat m), .retAddr 0, .int (sc.getD (m + 1) 0), .ref 0]) (M' := tMem B I J) xl767 rfl rfl ?_
  refine sw_0 (pc' := 769) (L' := lwL m) (st' := [.int 2, .int (Int32.ofNat m), .retAddr 0, .int (sc.getD (m + 1) 0), .ref 0]) (M' := tMem B I J) xl768 rfl rfl ?_
  refine sw_0 (pc' := 770) (L' := lwL m) (st' := [.int (Int32.ofNat m + 2), .retAddr 0, .int (sc.getD (m + 1) 0), .ref 0]) (M' := tMem B I J) xl769 rfl rfl ?_
  refine sw_ial xl770 (show Int32.ofNat m + 2 = Int32.ofNat (m + 2) from oi_add (b := 2)) (by omega) hl ?_
  refine lw_call0 (c := nc107) (as := [.ref 0, .int (sc.getD (m + 1) 0), .int (sc.getD (m + 2) 0)]) (rest := []) (r' := (xt_150, 5, 1)) xl771 rfl rfl (lw_recv (c := 11) (pB_nok rfl hO) rfl rfl rfl) rfl rfl rfl nN107 hO ⟨_, _, rfl, kv_argr 0, _, _, rfl, kv_arg _, _, _, rfl, kv_arg _, rfl⟩ (fun q hq => by cases hq) (fun v1 B1 I1 J1 hO1 hA1 hp1 hv1 => ?_)
  obtain ⟨x1, rfl, -, -⟩ := kvo_i hv1
  have h51 : npI [(186, 5, 0, 999)] I1 := npI_cg h5 (hA1.1 186 5 rfl).1
  refine sw_0 (pc' := 775) (L' := lwL m) (st' := []) (M' := tMem B1 I1 J1) xl774 rfl rfl ?_
  refine sw_0 (pc' := 776) (L' := lwL m) (st' := [.ref 185]) (M' := tMem B1 I1 J1) xl775 rfl rfl ?_
  refine sw_0 (pc' := 777) (L' := lwL m) (st' := [.retAddr 0, .ref 185]) (M' := tMem B1 I1 J1) xl776 rfl rfl ?_
  refine sw_0 (pc' := 778) (L' := lwL m) (st' := [.int (Int32.ofNat m), .retAddr 0, .ref 185]) (M' := tMem B1 I1 J1) xl777 rfl rfl ?_
  refine sw_0 (pc' := 779) (L' := lwL m) (st' := [.int 1, .int (Int32.ofNat m), .retAddr 0, .ref 185]) (M' := tMem B1 I1 J1) xl778 rfl rfl ?_
  refine sw_0 (pc' := 780) (L' := lwL m) (st' := [.int (Int32.ofNat m + 1), .retAddr 0, .ref 185]) (M' := tMem B1 I1 J1) xl779 rfl rfl ?_
  refine sw_ial xl780 (show Int32.ofNat m + 1 = Int32.ofNat (m + 1) from oi_add (b := 1)) (by omega) hl ?_
  refine sw_0 (pc' := 782) (L' := lwL m) (st' := [.retAddr 0, .int (sc.getD (m + 1) 0), .ref 185]) (M' := tMem B1 I1 J1) xl781 rfl rfl ?_
  refine sw_0 (pc' := 783) (L' := lwL m) (st' := [.int (Int32.ofNat m), .retAddr 0, .int (sc.getD (m + 1) 0), .ref 185]) (M' := tMem B1 I1 J1) xl782 rfl rfl ?_
  refine sw_0 (pc' := 784) (L' := lwL m) (st' := [.int 2, .int (Int32.ofNat m), .retAddr 0, .int (sc.getD (m + 1) 0), .ref 185]) (M' := tMem B1 I1 J1) xl783 rfl rfl ?_
  refine sw_0 (pc' := 785) (L' := lwL m) (st' := [.int (Int32.ofNat m + 2), .retAddr 0, .int (sc.getD (m + 1) 0), .ref 185]) (M' := tMem B1 I1 J1) xl784 rfl rfl ?_
  refine sw_ial xl785 (show Int32.ofNat m + 2 = Int32.ofNat (m + 2) from oi_add (b := 2)) (by omega) hl ?_
  refine lw_call0 (c := nc111) (as := [.ref 185, .int (sc.getD (m + 1) 0), .int (sc.getD (m + 2) 0)]) (rest := []) (r' := (xt_275, 4, 1)) xl786 rfl rfl (lw_recv (c := 12) (pB_nok rfl hO1) rfl rfl rfl) rfl rfl rfl nN111 hO1 ⟨_, _, rfl, kv_argr 185, _, _, rfl, kv_arg _, _, _, rfl, kv_arg _, rfl⟩ h51 (fun v2 B2 I2 J2 hO2 hA2 hp2 hv2 => ?_)
  obtain ⟨x2, rfl, -, -⟩ := kvo_i hv2
  have h52 : npI [(186, 5, 0, 999)] I2 := hp2
  have hR1 := R7_ag hA1 (fun _ => ⟨rfl, rfl, rfl, rfl⟩) hR
  have hR2 := R7_ag hA2 (fun _ => ⟨rfl, rfl, rfl, rfl⟩) hR1
  refine sw_0 (pc' := 790) (L' := lwL m) (st' := []) (M' := tMem B2 I2 J2) xl789 rfl rfl ?_
  refine sw_0 (pc' := 2214) (L' := lwL m) (st' := []) (M' := tMem B2 I2 J2) xl790 rfl rfl ?_
  exact hb B2 I2 J2 ⟨hO2, h52, hR2⟩ ⟨hA2.2.2.1.trans hA1.2.2.1, hA2.2.2.2.trans hA1.2.2.2⟩
set_option maxRecDepth 100000 in
theorem lwc15 {sc : List Int32} {B : xM} {I : tI} {J : tJ} {m : Nat} {Q : Option Value → xM → Prop} (hm : m + 6 ≤ sc.length) (hl : sc.length ≤ 3072) (hI : LInv R7 sc B I J) (hb : ∀ B' I' J', LInv R7 sc B' I' J' → kSz B B' → sw sc rLawX 2214 (lwL m) [] (tMem B' I' J') Q) : sw sc rLawX 793 (lwL m) [] (tMem B I J) Q := by
  obtain ⟨hO, h5, hR⟩ := hI
  refine sw_0 (pc' := 794) (L' := lwL m) (st' := [.ref 0]) (M' := tMem B I J) xl793 rfl rfl ?_
  refine sw_0 (pc' := 795) (L' := lwL m) (st' := [.retAddr 0, .ref 0]) (M' := tMem B I J) xl794 rfl rfl ?_
  refine sw_0 (pc' := 796) (L' := lwL m) (st' := [.int (Int32.ofNat m), .retAddr 0, .ref 0]) (M' := tMem B I J) xl795 rfl rfl ?_
  refine sw_0 (pc' := 797) (L' := lwL m) (st' := [.int 1, .int (Int32.ofNat m), .retAddr 0, .ref 0]) (M' := tMem B I J) xl796 rfl rfl ?_
  refine sw_0 (pc' := 798) (L' := lwL m) (st' := [.int (Int32.ofNat m + 1), .retAddr 0, .ref 0]) (M' := tMem B I J) xl797 rfl rfl ?_
  refine sw_ial xl798 (show Int32.ofNat m + 1 = Int32.ofNat (m + 1) from oi_add (b := 1)) (by omega) hl ?_
  refine sw_0 (pc' := 800) (L' := lwL m) (st' := [.retAddr 0, .int (sc.getD (m + 1) 0), .ref 0]) (M' := tMem B I J) xl799 rfl rfl ?_
  refine sw_0 (pc' := 801) (L' := lwL m) (st' := [.int (Int32.ofNat m), .retAddr 0, .int (sc.getD (m + 1) 0), .ref 0]) (M' := tMem B I J) xl800 rfl rfl ?_
  refine sw_0 (pc' := 802) (L' := lwL m) (st' := [.int 2, .int (Int32.ofNat m), .retAddr 0, .int (sc.getD (m + 1) 0), .ref 0]) (M' := tMem B I J) xl801 rfl rfl ?_
  refine sw_0 (pc' := 803) (L' := lwL m) (st' := [.int (Int32.ofNat m + 2), .retAddr 0, .int (sc.getD (m + 1) 0), .ref 0]) (M' := tMem B I J) xl802 rfl rfl ?_
  refine sw_ial xl803 (show Int32.ofNat m + 2 = Int32.ofNat (m + 2) from oi_add (b := 2)) (by omega) hl ?_
  refine lw_call0 (c := nc112) (as := [.ref 0, .int (sc.getD (m + 1) 0), .int (sc.getD (m + 2) 0)]) (rest := []) (r' := (xt_151, 3, 1)) xl804 rfl rfl (lw_recv (c := 11) (pB_nok rfl hO) rfl rfl rfl) rfl rfl rfl nN112 hO ⟨_, _, rfl, kv_argr 0, _, _, rfl, kv_arg _, _, _, rfl, kv_arg _, rfl⟩ (fun q hq => by cases hq) (fun v1 B1 I1 J1 hO1 hA1 hp1 hv1 => ?_)
  obtain ⟨x1, rfl, -, -⟩ := kvo_i hv1
  have h51 : npI [(186, 5, 0, 999)] I1 := npI_cg h5 (hA1.1 186 5 rfl).1
  refine sw_0 (pc' := 808) (L' := lwL m) (st' := []) (M' := tMem B1 I1 J1) xl807 rfl rfl ?_
  refine sw_0 (pc' := 809) (L' := lwL m) (st' := [.ref 185]) (M' := tMem B1 I1 J1) xl808 rfl rfl ?_
  refine sw_0 (pc' := 810) (L' := lwL m) (st' := [.retAddr 0, .ref 185]) (M' := tMem B1 I1 J1) xl809 rfl rfl ?_
  refine sw_0 (pc' := 811) (L' := lwL m) (st' := [.int (Int32.ofNat m), .retAddr 0, .ref 185]) (M' := tMem B1 I1 J1) xl810 rfl rfl ?_
  refine sw_0 (pc' := 812) (L' := lwL m) (st' := [.int 1, .int (Int32.ofNat m), .retAddr 0, .ref 185]) (M' := tMem B1 I1 J1) xl811 rfl rfl ?_
  refine sw_0 (pc' := 813) (L' := lwL m) (st' := [.int (Int32.ofNat m + 1), .retAddr 0, .ref 185]) (M' := tMem B1 I1 J1) xl812 rfl rfl ?_
  refine sw_ial xl813 (show Int32.ofNat m + 1 = Int32.ofNat (m + 1) from oi_add (b := 1)) (by omega) hl ?_
  refine sw_0 (pc' := 815) (L' := lwL m) (st' := [.retAddr 0, .int (sc.getD (m + 1) 0), .ref 185]) (M' := tMem B1 I1 J1) xl814 rfl rfl ?_
  refine sw_0 (pc' := 816) (L' := lwL m) (st' := [.int (Int32.ofNat m), .retAddr 0, .int (sc.getD (m + 1) 0), .ref 185]) (M' := tMem B1 I1 J1) xl815 rfl rfl ?_
  refine sw_0 (pc' := 817) (L' := lwL m) (st' := [.int 2, .int (Int32.ofNat m), .retAddr 0, .int (sc.getD (m + 1) 0), .ref 185]) (M' := tMem B1 I1 J1) xl816 rfl rfl ?_
  refine sw_0 (pc' := 818) (L' := lwL m) (st' := [.int (Int32.ofNat m + 2), .retAddr 0, .int (sc.getD (m + 1) 0), .ref 185]) (M' := tMem B1 I1 J1) xl817 rfl rfl ?_
  refine sw_ial xl818 (show Int32.ofNat m + 2 = Int32.ofNat (m + 2) from oi_add (b := 2)) (by omega) hl ?_
  refine lw_call0 (c := nc114) (as := [.ref 185, .int (sc.getD (m + 1) 0), .int (sc.getD (m + 2) 0)]) (rest := []) (r' := (xt_276, 3, 1)) xl819 rfl rfl (lw_recv (c := 12) (pB_nok rfl hO1) rfl rfl rfl) rfl rfl rfl nN114 hO1 ⟨_, _, rfl, kv_argr 185, _, _, rfl, kv_arg _, _, _, rfl, kv_arg _, rfl⟩ h51 (fun v2 B2 I2 J2 hO2 hA2 hp2 hv2 => ?_)
  obtain ⟨x2, rfl, -, -⟩ := kvo_i hv2
  have h52 : npI [(186, 5, 0, 999)] I2 := hp2
  have hR1 := R7_ag hA1 (fun _ => ⟨rfl, rfl, rfl, rfl⟩) hR
  have hR2 := R7_ag hA2 (fun _ => ⟨rfl, rfl, rfl, rfl⟩) hR1
  refine sw_0 (pc' := 823) (L' := lwL m) (st' := []) (M' := tMem B2 I2 J2) xl822 rfl rfl ?_
  refine sw_0 (pc' := 2214) (L' := lwL m) (st' := []) (M' := tMem B2 I2 J2) xl823 rfl rfl ?_
  exact hb B2 I2 J2 ⟨hO2, h52, hR2⟩ ⟨hA2.2.2.1.trans hA1.2.2.1, hA2.2.2.2.trans hA1.2.2.2⟩
set_option maxRecDepth 100000 in
theorem lwc16 {sc : List Int32} {B : xM} {I : tI} {J : tJ} {m : Nat} {Q : Option Value → xM → Prop} (hm : m + 6 ≤ sc.length) (hl : sc.length ≤ 3072) (hI : LInv R7 sc B I J) (hb : ∀ B' I' J', LInv R7 sc B' I' J' → kSz B B' → sw sc rLawX 2214 (lwL m) [] (tMem B' I' J') Q) : sw sc rLawX 826 (lwL m) [] (tMem B I J) Q := by
  obtain ⟨hO, h5, hR⟩ := hI
  refine sw_0 (pc' := 827) (L' := lwL m) (st' := [.ref 0]) (M' := tMem B I J) xl826 rfl rfl ?_
  refine sw_0 (pc' := 828) (L' := lwL m) (st' := [.retAddr 0, .ref 0]) (M' := tMem B I J) xl827 rfl rfl ?_
  refine sw_0 (pc' := 829) (L' := lwL m) (st' := [.int (Int32.ofNat m), .retAddr 0, .ref 0]) (M' := tMem B I J) xl828 rfl rfl ?_
  refine sw_0 (pc' := 830) (L' := lwL m) (st' := [.int 1, .int (Int32.ofNat m), .retAddr 0, .ref 0]) (M' := tMem B I J) xl829 rfl rfl ?_
  refine sw_0 (pc' := 831) (L' := lwL m) (st' := [.int (Int32.ofNat m + 1), .retAddr 0, .ref 0]) (M' := tMem B I J) xl830 rfl rfl ?_
  refine sw_ial xl831 (show Int32.ofNat m + 1 = Int32.ofNat (m + 1) from oi_add (b := 1)) (by omega) hl ?_
  refine sw_0 (pc' := 833) (L' := lwL m) (st' := [.retAddr 0, .int (sc.getD (m + 1) 0), .ref 0]) (M' := tMem B I J) xl832 rfl rfl ?_
  refine sw_0 (pc' := 834) (L' := lwL m) (st' := [.int (Int32.ofNat m), .retAddr 0, .int (sc.getD (m + 1) 0), .ref 0]) (M' := tMem B I J) xl833 rfl rfl ?_
  refine sw_0 (pc' := 835) (L' := lwL m) (st' := [.int 2, .int (Int32.ofNat m), .retAddr 0, .int (sc.getD (m + 1) 0), .ref 0]) (M' := tMem B I J) xl834 rfl rfl ?_
  refine sw_0 (pc' := 836) (L' := lwL m) (st' := [.int (Int32.ofNat m + 2), .retAddr 0, .int (sc.getD (m + 1) 0), .ref 0]) (M' := tMem B I J) xl835 rfl rfl ?_
  refine sw_ial xl836 (show Int32.ofNat m + 2 = Int32.ofNat (m + 2) from oi_add (b := 2)) (by omega) hl ?_
  refine lw_call0 (c := nc115) (as := [.ref 0, .int (sc.getD (m + 1) 0), .int (sc.getD (m + 2) 0)]) (rest := []) (r' := (xt_152, 4, 1)) xl837 rfl rfl (lw_recv (c := 11) (pB_nok rfl hO) rfl rfl rfl) rfl rfl rfl nN115 hO ⟨_, _, rfl, kv_argr 0, _, _, rfl, kv_arg _, _, _, rfl, kv_arg _, rfl⟩ (fun q hq => by cases hq) (fun v1 B1 I1 J1 hO1 hA1 hp1 hv1 => ?_)
  obtain ⟨x1, rfl, -, -⟩ := kvo_i hv1
  have h51 : npI [(186, 5, 0, 999)] I1 := npI_cg h5 (hA1.1 186 5 rfl).1
  refine sw_0 (pc' := 841) (L' := lwL m) (st' := []) (M' := tMem B1 I1 J1) xl840 rfl rfl ?_
  refine sw_0 (pc' := 842) (L' := lwL m) (st' := [.ref 185]) (M' := tMem B1 I1 J1) xl841 rfl rfl ?_
  refine sw_0 (pc' := 843) (L' := lwL m) (st' := [.retAddr 0, .ref 185]) (M' := tMem B1 I1 J1) xl842 rfl rfl ?_
  refine sw_0 (pc' := 844) (L' := lwL m) (st' := [.int (Int32.ofNat m), .retAddr 0, .ref 185]) (M' := tMem B1 I1 J1) xl843 rfl rfl ?_
  refine sw_0 (pc' := 845) (L' := lwL m) (st' := [.int 1, .int (Int32.ofNat m), .retAddr 0, .ref 185]) (M' := tMem B1 I1 J1) xl844 rfl rfl ?_
  refine sw_0 (pc' := 846) (L' := lwL m) (st' := [.int (Int32.ofNat m + 1), .retAddr 0, .ref 185]) (M' := tMem B1 I1 J1) xl845 rfl rfl ?_
  refine sw_ial xl846 (show Int32.ofNat m + 1 = Int32.ofNat (m + 1) from oi_add (b := 1)) (by omega) hl ?_
  refine sw_0 (pc' := 848) (L' := lwL m) (st' := [.retAddr 0, .int (sc.getD (m + 1) 0), .ref 185]) (M' := tMem B1 I1 J1) xl847 rfl rfl ?_
  refine sw_0 (pc' := 849) (L' := lwL m) (st' := [.int (Int32.ofNat m), .retAddr 0, .int (sc.getD (m + 1) 0), .ref 185]) (M' := tMem B1 I1 J1) xl848 rfl rfl ?_
  refine sw_0 (pc' := 850) (L' := lwL m) (st' := [.int 2, .int (Int32.ofNat m), .retAddr 0, .int (sc.getD (m + 1) 0), .ref 185]) (M' := tMem B1 I1 J1) xl849 rfl rfl ?_
  refine sw_0 (pc' := 851) (L' := lwL m) (st' := [.int (Int32.ofNat m + 2), .retAddr 0, .int (sc.getD (m + 1) 0), .ref 185]) (M' := tMem B1 I1 J1) xl850 rfl rfl ?_
  refine sw_ial xl851 (show Int32.ofNat m + 2 = Int32.ofNat (m + 2) from oi_add (b := 2)) (by omega) hl ?_
  refine lw_call0 (c := nc116) (as := [.ref 185, .int (sc.getD (m + 1) 0), .int (sc.getD (m + 2) 0)]) (rest := []) (r' := (xt_277, 4, 1)) xl852 rfl rfl (lw_recv (c := 12) (pB_nok rfl hO1) rfl rfl rfl) rfl rfl rfl nN116 hO1 ⟨_, _, rfl, kv_argr 185, _, _, rfl, kv_arg _, _, _, rfl, kv_arg _, rfl⟩ h51 (fun v2 B2 I2 J2 hO2 hA2 hp2 hv2 => ?_)
  obtain ⟨x2, rfl, -, -⟩ := kvo_i hv2
  have h52 : npI [(186, 5, 0, 999)] I2 := hp2
  have hR1 := R7_ag hA1 (fun _ => ⟨rfl, rfl, rfl, rfl⟩) hR
  have hR2 := R7_ag hA2 (fun _ => ⟨rfl, rfl, rfl, rfl⟩) hR1
  refine sw_0 (pc' := 856) (L' := lwL m) (st' := []) (M' := tMem B2 I2 J2) xl855 rfl rfl ?_
  refine sw_0 (pc' := 2214) (L' := lwL m) (st' := []) (M' := tMem B2 I2 J2) xl856 rfl rfl ?_
  exact hb B2 I2 J2 ⟨hO2, h52, hR2⟩ ⟨hA2.2.2.1.trans hA1.2.2.1, hA2.2.2.2.trans hA1.2.2.2⟩
set_option maxRecDepth 100000 in
theorem lwc17 {sc : List Int32} {B : xM} {I : tI} {J : tJ} {m : Nat} {Q : Option Value → xM → Prop} (hm : m + 6 ≤ sc.length) (hl : sc.length ≤ 3072) (hI : LInv R7 sc B I J) (hb : ∀ B' I' J', LInv R7 sc B' I' J' → kSz B B' → sw sc rLawX 2214 (lwL m) [] (tMem B' I' J') Q) : sw sc rLawX 859 (lwL m) [] (tMem B I J) Q := by
  obtain ⟨hO, h5, hR⟩ := hI
  refine sw_0 (pc' := 860) (L' := lwL m) (st' := [.ref 0]) (M' := tMem B I J) xl859 rfl rfl ?_
  refine sw_0 (pc' := 861) (L' := lwL m) (st' := [.retAddr 0, .ref 0]) (M' := tMem B I J) xl860 rfl rfl ?_
  refine sw_0 (pc' := 862) (L' := lwL m) (st' := [.int (Int32.ofNat m), .retAddr 0, .ref 0]) (M' := tMem B I J) xl861 rfl rfl ?_
  refine sw_0 (pc' := 863) (L' := lwL m) (st' := [.int 1, .int (Int32.ofNat m), .retAddr 0, .ref 0]) (M' := tMem B I J) xl862 rfl rfl ?_
  refine sw_0 (pc' := 864) (L' := lwL m) (st' := [.int (Int32.ofNat m + 1), .retAddr 0, .ref 0]) (M' := tMem B I J) xl863 rfl rfl ?_
  refine sw_ial xl864 (show Int32.ofNat m + 1 = Int32.ofNat (m + 1) from oi_add (b := 1)) (by omega) hl ?_
  refine lw_call0 (c := nc117) (as := [.ref 0, .int (sc.getD (m + 1) 0)]) (rest := []) (r' := (xt_153, 2, 1)) xl865 rfl rfl (lw_recv (c := 11) (pB_nok rfl hO) rfl rfl rfl) rfl rfl rfl nN117 hO ⟨_, _, rfl, kv_argr 0, _, _, rfl, kv_arg _, rfl⟩ (fun q hq => by cases hq) (fun v1 B1 I1 J1 hO1 hA1 hp1 hv1 => ?_)
  obtain ⟨x1, rfl, -, -⟩ := kvo_i hv1
  have h51 : npI [(186, 5, 0, 999)] I1 := npI_cg h5 (hA1.1 186 5 rfl).1
  refine sw_0 (pc' := 869) (L' := lwL m) (st' := []) (M' := tMem B1 I1 J1) xl868 rfl rfl ?_
  refine sw_0 (pc' := 870) (L' := lwL m) (st' := [.ref 185]) (M' := tMem B1 I1 J1) xl869 rfl rfl ?_
  refine sw_0 (pc' := 871) (L' := lwL m) (st' := [.retAddr 0, .ref 185]) (M' := tMem B1 I1 J1) xl870 rfl rfl ?_
  refine sw_0 (pc' := 872) (L' := lwL m) (st' := [.int (Int32.ofNat m), .retAddr 0, .ref 185]) (M' := tMem B1 I1 J1) xl871 rfl rfl ?_
  refine sw_0 (pc' := 873) (L' := lwL m) (st' := [.int 1, .int (Int32.ofNat m), .retAddr 0, .ref 185]) (M' := tMem B1 I1 J1) xl872 rfl rfl ?_
  refine sw_0 (pc' := 874) (L' := lwL m) (st' := [.int (Int32.ofNat m + 1), .retAddr 0, .ref 185]) (M' := tMem B1 I1 J1) xl873 rfl rfl ?_
  refine sw_ial xl874 (show Int32.ofNat m + 1 = Int32.ofNat (m + 1) from oi_add (b := 1)) (by omega) hl ?_
  refine lw_call0 (c := nc118) (as := [.ref 185, .int (sc.getD (m + 1) 0)]) (rest := []) (r' := (xt_278, 2, 1)) xl875 rfl rfl (lw_recv (c := 12) (pB_nok rfl hO1) rfl rfl rfl) rfl rfl rfl nN118 hO1 ⟨_, _, rfl, kv_argr 185, _, _, rfl, kv_arg _, rfl⟩ h51 (fun v2 B2 I2 J2 hO2 hA2 hp2 hv2 => ?_)
  obtain ⟨x2, rfl, -, -⟩ := kvo_i hv2
  have h52 : npI [(186, 5, 0, 999)] I2 := hp2
  have hR1 := R7_ag hA1 (fun _ => ⟨rfl, rfl, rfl, rfl⟩) hR
  have hR2 := R7_ag hA2 (fun _ => ⟨rfl, rfl, rfl, rfl⟩) hR1
  refine sw_0 (pc' := 879) (L' := lwL m) (st' := []) (M' := tMem B2 I2 J2) xl878 rfl rfl ?_
  refine sw_0 (pc' := 2214) (L' := lwL m) (st' := []) (M' := tMem B2 I2 J2) xl879 rfl rfl ?_
  exact hb B2 I2 J2 ⟨hO2, h52, hR2⟩ ⟨hA2.2.2.1.trans hA1.2.2.1, hA2.2.2.2.trans hA1.2.2.2⟩
set_option maxRecDepth 100000 in
theorem lwc18 {sc : List Int32} {B : xM} {I : tI} {J : tJ} {m : Nat} {Q : Option Value → xM → Prop} (hm : m + 6 ≤ sc.length) (hl : sc.length ≤ 3072) (hI : LInv R7 sc B I J) (hb : ∀ B' I' J', LInv R7 sc B' I' J' → kSz B B' → sw sc rLawX 2214 (lwL m) [] (tMem B' I' J') Q) : sw sc rLawX 882 (lwL m) [] (tMem B I J) Q := by
  obtain ⟨hO, h5, hR⟩ := hI
  refine sw_0 (pc' := 883) (L' := lwL m) (st' := [.ref 0]) (M' := tMem B I J) xl882 rfl rfl ?_
  refine sw_0 (pc' := 884) (L' := lwL m) (st' := [.retAddr 0, .ref 0]) (M' := tMem B I J) xl883 rfl rfl ?_
  refine sw_0 (pc' := 885) (L' := lwL m) (st' := [.int (Int32.ofNat m), .retAddr 0, .ref 0]) (M' := tMem B I J) xl884 rfl rfl ?_
  refine sw_0 (pc' := 886) (L' := lwL m) (st' := [.int 1, .int (Int32.ofNat m), .retAddr 0, .ref 0]) (M' := tMem B I J) xl885 rfl rfl ?_
  refine sw_0 (pc' := 887) (L' := lwL m) (st' := [.int (Int32.ofNat m + 1), .retAddr 0, .ref 0]) (M' := tMem B I J) xl886 rfl rfl ?_
  refine sw_ial xl887 (show Int32.ofNat m + 1 = Int32.ofNat (m + 1) from oi_add (b := 1)) (by omega) hl ?_
  refine lw_call0 (c := nc119) (as := [.ref 0, .int (sc.getD (m + 1) 0)]) (rest := []) (r' := (xt_154, 2, 1)) xl888 rfl rfl (lw_recv (c := 11) (pB_nok rfl hO) rfl rfl rfl) rfl rfl rfl nN119 hO ⟨_, _, rfl, kv_argr 0, _, _, rfl, kv_arg _, rfl⟩ (fun q hq => by cases hq) (fun v1 B1 I1 J1 hO1 hA1 hp1 hv1 => ?_)
  obtain ⟨x1, rfl, -, -⟩ := kvo_i hv1
  have h51 : npI [(186, 5, 0, 999)] I1 := npI_cg h5 (hA1.1 186 5 rfl).1
  refine sw_0 (pc' := 892) (L' := lwL m) (st' := []) (M' := tMem B1 I1 J1) xl891 rfl rfl ?_
  refine sw_0 (pc' := 893) (L' := lwL m) (st' := [.ref 185]) (M' := tMem B1 I1 J1) xl892 rfl rfl ?_
  refine sw_0 (pc' := 894) (L' := lwL m) (st' := [.retAddr 0, .ref 185]) (M' := tMem B1 I1 J1) xl893 rfl rfl ?_
  refine sw_0 (pc' := 895) (L' := lwL m) (st' := [.int (Int32.ofNat m), .retAddr 0, .ref 185]) (M' := tMem B1 I1 J1) xl894 rfl rfl ?_
  refine sw_0 (pc' := 896) (L' := lwL m) (st' := [.int 1, .int (Int32.ofNat m), .retAddr 0, .ref 185]) (M' := tMem B1 I1 J1) xl895 rfl rfl ?_
  refine sw_0 (pc' := 897) (L' := lwL m) (st' := [.int (Int32.ofNat m + 1), .retAddr 0, .ref 185]) (M' := tMem B1 I1 J1) xl896 rfl rfl ?_
  refine sw_ial xl897 (show Int32.ofNat m + 1 = Int32.ofNat (m + 1) from oi_add (b := 1)) (by omega) hl ?_
  refine lw_call0 (c := nc120) (as := [.ref 185, .int (sc.getD (m + 1) 0)]) (rest := []) (r' := (xt_280, 2, 1)) xl898 rfl rfl (lw_recv (c := 12) (pB_nok rfl hO1) rfl rfl rfl) rfl rfl rfl nN120 hO1 ⟨_, _, rfl, kv_argr 185, _, _, rfl, kv_arg _, rfl⟩ h51 (fun v2 B2 I2 J2 hO2 hA2 hp2 hv2 => ?_)
  obtain ⟨x2, rfl, -, -⟩ := kvo_i hv2
  have h52 : npI [(186, 5, 0, 999)] I2 := hp2
  have hR1 := R7_ag hA1 (fun _ => ⟨rfl, rfl, rfl, rfl⟩) hR
  have hR2 := R7_ag hA2 (fun _ => ⟨rfl, rfl, rfl, rfl⟩) hR1
  refine sw_0 (pc' := 902) (L' := lwL m) (st' := []) (M' := tMem B2 I2 J2) xl901 rfl rfl ?_
  refine sw_0 (pc' := 2214) (L' := lwL m) (st' := []) (M' := tMem B2 I2 J2) xl902 rfl rfl ?_
  exact hb B2 I2 J2 ⟨hO2, h52, hR2⟩ ⟨hA2.2.2.1.trans hA1.2.2.1, hA2.2.2.2.trans hA1.2.2.2⟩
set_option maxRecDepth 100000 in
theorem lwc19 {sc : List Int32} {B : xM} {I : tI} {J : tJ} {m : Nat} {Q : Option Value → xM → Prop} (hm : m + 6 ≤ sc.length) (hl : sc.length ≤ 3072) (hI : LInv R7 sc B I J) (hb : ∀ B' I' J', LInv R7 sc B' I' J' → kSz B B' → sw sc rLawX 2214 (lwL m) [] (tMem B' I' J') Q) : sw sc rLawX 905 (lwL m) [] (tMem B I J) Q := by
  obtain ⟨hO, h5, hR⟩ := hI
  refine sw_0 (pc' := 906) (L' := lwL m) (st' := [.ref 0]) (M' := tMem B I J) xl905 rfl rfl ?_
  refine sw_0 (pc' := 907) (L' := lwL m) (st' := [.retAddr 0, .ref 0]) (M' := tMem B I J) xl906 rfl rfl ?_
  refine sw_0 (pc' := 908) (L' := lwL m) (st' := [.int (Int32.ofNat m), .retAddr 0, .ref 0]) (M' := tMem B I J) xl907 rfl rfl ?_
  refine sw_0 (pc' := 909) (L' := lwL m) (st' := [.int 1, .int (Int32.ofNat m), .retAddr 0, .ref 0]) (M' := tMem B I J) xl908 rfl rfl ?_
  refine sw_0 (pc' := 910) (L' := lwL m) (st' := [.int (Int32.ofNat m + 1), .retAddr 0, .ref 0]) (M' := tMem B I J) xl909 rfl rfl ?_
  refine sw_ial xl910 (show Int32.ofNat m + 1 = Int32.ofNat (m + 1) from oi_add (b := 1)) (by omega) hl ?_
  refine lw_call0 (c := nc121) (as := [.ref 0, .int (sc.getD (m + 1) 0)]) (rest := []) (r' := (xt_155, 2, 1)) xl911 rfl rfl (lw_recv (c := 11) (pB_nok rfl hO) rfl rfl rfl) rfl rfl rfl nN121 hO ⟨_, _, rfl, kv_argr 0, _, _, rfl, kv_arg _, rfl⟩ (fun q hq => by cases hq) (fun v1 B1 I1 J1 hO1 hA1 hp1 hv1 => ?_)
  obtain ⟨x1, rfl, -, -⟩ := kvo_i hv1
  have h51 : npI [(186, 5, 0, 999)] I1 := npI_cg h5 (hA1.1 186 5 rfl).1
  refine sw_0 (pc' := 915) (L' := lwL m) (st' := []) (M' := tMem B1 I1 J1) xl914 rfl rfl ?_
  refine sw_0 (pc' := 916) (L' := lwL m) (st' := [.ref 185]) (M' := tMem B1 I1 J1) xl915 rfl rfl ?_
  refine sw_0 (pc' := 917) (L' := lwL m) (st' := [.retAddr 0, .ref 185]) (M' := tMem B1 I1 J1) xl916 rfl rfl ?_
  refine sw_0 (pc' := 918) (L' := lwL m) (st' := [.int (Int32.ofNat m), .retAddr 0, .ref 185]) (M' := tMem B1 I1 J1) xl917 rfl rfl ?_
  refine sw_0 (pc' := 919) (L' := lwL m) (st' := [.int 1, .int (Int32.ofNat m), .retAddr 0, .ref 185]) (M' := tMem B1 I1 J1) xl918 rfl rfl ?_
  refine sw_0 (pc' := 920) (L' := lwL m) (st' := [.int (Int32.ofNat m + 1), .retAddr 0, .ref 185]) (M' := tMem B1 I1 J1) xl919 rfl rfl ?_
  refine sw_ial xl920 (show Int32.ofNat m + 1 = Int32.ofNat (m + 1) from oi_add (b := 1)) (by omega) hl ?_
  refine lw_call0 (c := nc122) (as := [.ref 185, .int (sc.getD (m + 1) 0)]) (rest := []) (r' := (xt_281, 2, 1)) xl921 rfl rfl (lw_recv (c := 12) (pB_nok rfl hO1) rfl rfl rfl) rfl rfl rfl nN122 hO1 ⟨_, _, rfl, kv_argr 185, _, _, rfl, kv_arg _, rfl⟩ h51 (fun v2 B2 I2 J2 hO2 hA2 hp2 hv2 => ?_)
  obtain ⟨x2, rfl, -, -⟩ := kvo_i hv2
  have h52 : npI [(186, 5, 0, 999)] I2 := hp2
  have hR1 := R7_ag hA1 (fun _ => ⟨rfl, rfl, rfl, rfl⟩) hR
  have hR2 := R7_ag hA2 (fun _ => ⟨rfl, rfl, rfl, rfl⟩) hR1
  refine sw_0 (pc' := 925) (L' := lwL m) (st' := []) (M' := tMem B2 I2 J2) xl924 rfl rfl ?_
  refine sw_0 (pc' := 2214) (L' := lwL m) (st' := []) (M' := tMem B2 I2 J2) xl925 rfl rfl ?_
  exact hb B2 I2 J2 ⟨hO2, h52, hR2⟩ ⟨hA2.2.2.1.trans hA1.2.2.1, hA2.2.2.2.trans hA1.2.2.2⟩
set_option maxRecDepth 100000 in
theorem lwc20 {sc : List Int32} {B : xM} {I : tI} {J : tJ} {m : Nat} {Q : Option Value → xM → Prop} (hm : m + 6 ≤ sc.length) (hl : sc.length ≤ 3072) (hI : LInv R7 sc B I J) (hb : ∀ B' I' J', LInv R7 sc B' I' J' → kSz B B' → sw sc rLawX 2214 (lwL m) [] (tMem B' I' J') Q) : sw sc rLawX 928 (lwL m) [] (tMem B I J) Q := by
  obtain ⟨hO, h5, hR⟩ := hI
  refine sw_0 (pc' := 929) (L' := lwL m) (st' := [.ref 0]) (M' := tMem B I J) xl928 rfl rfl ?_
  refine sw_0 (pc' := 930) (L' := lwL m) (st' := [.retAddr 0, .ref 0]) (M' := tMem B I J) xl929 rfl rfl ?_
  refine sw_0 (pc' := 931) (L' := lwL m) (st' := [.int (Int32.ofNat m), .retAddr 0, .ref 0]) (M' := tMem B I J) xl930 rfl rfl ?_
  refine sw_0 (pc' := 932) (L' := lwL m) (st' := [.int 1, .int (Int32.ofNat m), .retAddr 0, .ref 0]) (M' := tMem B I J) xl931 rfl rfl ?_
  refine sw_0 (pc' := 933) (L' := lwL m) (st' := [.int (Int32.ofNat m + 1), .retAddr 0, .ref 0]) (M' := tMem B I J) xl932 rfl rfl ?_
  refine sw_ial xl933 (show Int32.ofNat m + 1 = Int32.ofNat (m + 1) from oi_add (b := 1)) (by omega) hl ?_
  refine sw_0 (pc' := 935) (L' := lwL m) (st' := [.retAddr 0, .int (sc.getD (m + 1) 0), .ref 0]) (M' := tMem B I J) xl934 rfl rfl ?_
  refine sw_0 (pc' := 936) (L' := lwL m) (st' := [.int (Int32.ofNat m), .retAddr 0, .int (sc.getD (m + 1) 0), .ref 0]) (M' := tMem B I J) xl935 rfl rfl ?_
  refine sw_0 (pc' := 937) (L' := lwL m) (st' := [.int 2, .int (Int32.ofNat m), .retAddr 0, .int (sc.getD (m + 1) 0), .ref 0]) (M' := tMem B I J) xl936 rfl rfl ?_
  refine sw_0 (pc' := 938) (L' := lwL m) (st' := [.int (Int32.ofNat m + 2), .retAddr 0, .int (sc.getD (m + 1) 0), .ref 0]) (M' := tMem B I J) xl937 rfl rfl ?_
  refine sw_ial xl938 (show Int32.ofNat m + 2 = Int32.ofNat (m + 2) from oi_add (b := 2)) (by omega) hl ?_
  refine lw_call0 (c := nc127) (as := [.ref 0, .int (sc.getD (m + 1) 0), .int (sc.getD (m + 2) 0)]) (rest := []) (r' := (xt_156, 4, 1)) xl939 rfl rfl (lw_recv (c := 11) (pB_nok rfl hO) rfl rfl rfl) rfl rfl rfl nN127 hO ⟨_, _, rfl, kv_argr 0, _, _, rfl, kv_arg _, _, _, rfl, kv_arg _, rfl⟩ (fun q hq => by cases hq) (fun v1 B1 I1 J1 hO1 hA1 hp1 hv1 => ?_)
  obtain ⟨x1, rfl, -, -⟩ := kvo_i hv1
  have h51 : npI [(186, 5, 0, 999)] I1 := npI_cg h5 (hA1.1 186 5 rfl).1
  refine sw_0 (pc' := 943) (L' := lwL m) (st' := []) (M' := tMem B1 I1 J1) xl942 rfl rfl ?_
  refine sw_0 (pc' := 944) (L' := lwL m) (st' := [.ref 185]) (M' := tMem B1 I1 J1) xl943 rfl rfl ?_
  refine sw_0 (pc' := 945) (L' := lwL m) (st' := [.retAddr 0, .ref 185]) (M' := tMem B1 I1 J1) xl944 rfl rfl ?_
  refine sw_0 (pc' := 946) (L' := lwL m) (st' := [.int (Int32.ofNat m), .retAddr 0, .ref 185]) (M' := tMem B1 I1 J1) xl945 rfl rfl ?_
  refine sw_0 (pc' := 947) (L' := lwL m) (st' := [.int 1, .int (Int32.ofNat m), .retAddr 0, .ref 185]) (M' := tMem B1 I1 J1) xl946 rfl rfl ?_
  refine sw_0 (pc' := 948) (L' := lwL m) (st' := [.int (Int32.ofNat m + 1), .retAddr 0, .ref 185]) (M' := tMem B1 I1 J1) xl947 rfl rfl ?_
  refine sw_ial xl948 (show Int32.ofNat m + 1 = Int32.ofNat (m + 1) from oi_add (b := 1)) (by omega) hl ?_
  refine sw_0 (pc' := 950) (L' := lwL m) (st' := [.retAddr 0, .int (sc.getD (m + 1) 0), .ref 185]) (M' := tMem B1 I1 J1) xl949 rfl rfl ?_
  refine sw_0 (pc' := 951) (L' := lwL m) (st' := [.int (Int32.ofNat m), .retAddr 0, .int (sc.getD (m + 1) 0), .ref 185]) (M' := tMem B1 I1 J1) xl950 rfl rfl ?_
  refine sw_0 (pc' := 952) (L' := lwL m) (st' := [.int 2, .int (Int32.ofNat m), .retAddr 0, .int (sc.getD (m + 1) 0), .ref 185]) (M' := tMem B1 I1 J1) xl951 rfl rfl ?_
  refine sw_0 (pc' := 953) (L' := lwL m) (st' := [.int (Int32.ofNat m + 2), .retAddr 0, .int (sc.getD (m + 1) 0), .ref 185]) (M' := tMem B1 I1 J1) xl952 rfl rfl ?_
  refine sw_ial xl953 (show Int32.ofNat m + 2 = Int32.ofNat (m + 2) from oi_add (b := 2)) (by omega) hl ?_
  refine lw_call0 (c := nc134) (as := [.ref 185, .int (sc.getD (m + 1) 0), .int (sc.getD (m + 2) 0)]) (rest := []) (r' := (xt_287, 4, 1)) xl954 rfl rfl (lw_recv (c := 12) (pB_nok rfl hO1) rfl rfl rfl) rfl rfl rfl nN134 hO1 ⟨_, _, rfl, kv_argr 185, _, _, rfl, kv_arg _, _, _, rfl, kv_arg _, rfl⟩ h51 (fun v2 B2 I2 J2 hO2 hA2 hp2 hv2 => ?_)
  obtain ⟨x2, rfl, -, -⟩ := kvo_i hv2
  have h52 : npI [(186, 5, 0, 999)] I2 := hp2
  have hR1 := R7_ag hA1 (fun _ => ⟨rfl, rfl, rfl, rfl⟩) hR
  have hR2 := R7_ag hA2 (fun _ => ⟨rfl, rfl, rfl, rfl⟩) hR1
  refine sw_0 (pc' := 958) (L' := lwL m) (st' := []) (M' := tMem B2 I2 J2) xl957 rfl rfl ?_
  refine sw_0 (pc' := 2214) (L' := lwL m) (st' := []) (M' := tMem B2 I2 J2) xl958 rfl rfl ?_
  exact hb B2 I2 J2 ⟨hO2, h52, hR2⟩ ⟨hA2.2.2.1.trans hA1.2.2.1, hA2.2.2.2.trans hA1.2.2.2⟩
set_option maxRecDepth 100000 in
theorem lwc21 {sc : List Int32} {B : xM} {I : tI} {J : tJ} {m : Nat} {Q : Option Value → xM → Prop} (hm : m + 6 ≤ sc.length) (hl : sc.length ≤ 3072) (hI : LInv R7 sc B I J) (hb : ∀ B' I' J', LInv R7 sc B' I' J' → kSz B B' → sw sc rLawX 2214 (lwL m) [] (tMem B' I' J') Q) : sw sc rLawX 961 (lwL m) [] (tMem B I J) Q := by
  obtain ⟨hO, h5, hR⟩ := hI
  refine sw_0 (pc' := 962) (L' := lwL m) (st' := [.ref 0]) (M' := tMem B I J) xl961 rfl rfl ?_
  refine sw_0 (pc' := 963) (L' := lwL m) (st' := [.retAddr 0, .ref 0]) (M' := tMem B I J) xl962 rfl rfl ?_
  refine sw_0 (pc' := 964) (L' := lwL m) (st' := [.int (Int32.ofNat m), .retAddr 0, .ref 0]) (M' := tMem B I J) xl963 rfl rfl ?_
  refine sw_0 (pc' := 965) (L' := lwL m) (st' := [.int 1, .int (Int32.ofNat m), .retAddr 0, .ref 0]) (M' := tMem B I J) xl964 rfl rfl ?_
  refine sw_0 (pc' := 966) (L' := lwL m) (st' := [.int (Int32.ofNat m + 1), .retAddr 0, .ref 0]) (M' := tMem B I J) xl965 rfl rfl ?_
  refine sw_ial xl966 (show Int32.ofNat m + 1 = Int32.ofNat (m + 1) from oi_add (b := 1)) (by omega) hl ?_
  refine lw_call0 (c := nc135) (as := [.ref 0, .int (sc.getD (m + 1) 0)]) (rest := []) (r' := (xt_157, 3, 1)) xl967 rfl rfl (lw_recv (c := 11) (pB_nok rfl hO) rfl rfl rfl) rfl rfl rfl nN135 hO ⟨_, _, rfl, kv_argr 0, _, _, rfl, kv_arg _, rfl⟩ (fun q hq => by cases hq) (fun v1 B1 I1 J1 hO1 hA1 hp1 hv1 => ?_)
  obtain ⟨x1, rfl, -, -⟩ := kvo_i hv1
  have h51 : npI [(186, 5, 0, 999)] I1 := npI_cg h5 (hA1.1 186 5 rfl).1
  refine sw_0 (pc' := 971) (L' := lwL m) (st' := []) (M' := tMem B1 I1 J1) xl970 rfl rfl ?_
  refine sw_0 (pc' := 972) (L' := lwL m) (st' := [.ref 185]) (M' := tMem B1 I1 J1) xl971 rfl rfl ?_
  refine sw_0 (pc' := 973) (L' := lwL m) (st' := [.retAddr 0, .ref 185]) (M' := tMem B1 I1 J1) xl972 rfl rfl ?_
  refine sw_0 (pc' := 974) (L' := lwL m) (st' := [.int (Int32.ofNat m), .retAddr 0, .ref 185]) (M' := tMem B1 I1 J1) xl973 rfl rfl ?_
  refine sw_0 (pc' := 975) (L' := lwL m) (st' := [.int 1, .int (Int32.ofNat m), .retAddr 0, .ref 185]) (M' := tMem B1 I1 J1) xl974 rfl rfl ?_
  refine sw_0 (pc' := 976) (L' := lwL m) (st' := [.int (Int32.ofNat m + 1), .retAddr 0, .ref 185]) (M' := tMem B1 I1 J1) xl975 rfl rfl ?_
  refine sw_ial xl976 (show Int32.ofNat m + 1 = Int32.ofNat (m + 1) from oi_add (b := 1)) (by omega) hl ?_
  refine lw_call0 (c := nc136) (as := [.ref 185, .int (sc.getD (m + 1) 0)]) (rest := []) (r' := (xt_288, 2, 1)) xl977 rfl rfl (lw_recv (c := 12) (pB_nok rfl hO1) rfl rfl rfl) rfl rfl rfl nN136 hO1 ⟨_, _, rfl, kv_argr 185, _, _, rfl, kv_arg _, rfl⟩ h51 (fun v2 B2 I2 J2 hO2 hA2 hp2 hv2 => ?_)
  obtain ⟨x2, rfl, -, -⟩ := kvo_i hv2
  have h52 : npI [(186, 5, 0, 999)] I2 := hp2
  have hR1 := R7_ag hA1 (fun _ => ⟨rfl, rfl, rfl, rfl⟩) hR
  have hR2 := R7_ag hA2 (fun _ => ⟨rfl, rfl, rfl, rfl⟩) hR1
  refine sw_0 (pc' := 981) (L' := lwL m) (st' := []) (M' := tMem B2 I2 J2) xl980 rfl rfl ?_
  refine sw_0 (pc' := 2214) (L' := lwL m) (st' := []) (M' := tMem B2 I2 J2) xl981 rfl rfl ?_
  exact hb B2 I2 J2 ⟨hO2, h52, hR2⟩ ⟨hA2.2.2.1.trans hA1.2.2.1, hA2.2.2.2.trans hA1.2.2.2⟩
set_option maxRecDepth 100000 in
theorem lwc22 {sc : List Int32} {B : xM} {I : tI} {J : tJ} {m : Nat} {Q : Option Value → xM → Prop} (hm : m + 6 ≤ sc.length) (hl : sc.length ≤ 3072) (hI : LInv R7 sc B I J) (hb : ∀ B' I' J', LInv R7 sc B' I' J' → kSz B B' → sw sc rLawX 2214 (lwL m) [] (tMem B' I' J') Q) : sw sc rLawX 984 (lwL m) [] (tMem B I J) Q := by
  obtain ⟨hO, h5, hR⟩ := hI
  refine sw_0 (pc' := 985) (L' := lwL m) (st' := [.ref 0]) (M' := tMem B I J) xl984 rfl rfl ?_
  refine sw_0 (pc' := 986) (L' := lwL m) (st' := [.retAddr 0, .ref 0]) (M' := tMem B I J) xl985 rfl rfl ?_
  refine sw_0 (pc' := 987) (L' := lwL m) (st' := [.int (Int32.ofNat m), .retAddr 0, .ref 0]) (M' := tMem B I J) xl986 rfl rfl ?_
  refine sw_0 (pc' := 988) (L' := lwL m) (st' := [.int 1, .int (Int32.ofNat m), .retAddr 0, .ref 0]) (M' := tMem B I J) xl987 rfl rfl ?_
  refine sw_0 (pc' := 989) (L' := lwL m) (st' := [.int (Int32.ofNat m + 1), .retAddr 0, .ref 0]) (M' := tMem B I J) xl988 rfl rfl ?_
  refine sw_ial xl989 (show Int32.ofNat m + 1 = Int32.ofNat (m + 1) from oi_add (b := 1)) (by omega) hl ?_
  refine sw_0 (pc' := 991) (L' := lwL m) (st' := [.retAddr 0, .int (sc.getD (m + 1) 0), .ref 0]) (M' := tMem B I J) xl990 rfl rfl ?_
  refine sw_0 (pc' := 992) (L' := lwL m) (st' := [.int (Int32.ofNat m), .retAddr 0, .int (sc.getD (m + 1) 0), .ref 0]) (M' := tMem B I J) xl991 rfl rfl ?_
  refine sw_0 (pc' := 993) (L' := lwL m) (st' := [.int 2, .int (Int32.ofNat m), .retAddr 0, .int (sc.getD (m + 1) 0), .ref 0]) (M' := tMem B I J) xl992 rfl rfl ?_
  refine sw_0 (pc' := 994) (L' := lwL m) (st' := [.int (Int32.ofNat m + 2), .retAddr 0, .int (sc.getD (m + 1) 0), .ref 0]) (M' := tMem B I J) xl993 rfl rfl ?_
  refine sw_ial xl994 (show Int32.ofNat m + 2 = Int32.ofNat (m + 2) from oi_add (b := 2)) (by omega) hl ?_
  refine lw_call0 (c := nc137) (as := [.ref 0, .int (sc.getD (m + 1) 0), .int (sc.getD (m + 2) 0)]) (rest := []) (r' := (xt_158, 4, 1)) xl995 rfl rfl (lw_recv (c := 11) (pB_nok rfl hO) rfl rfl rfl) rfl rfl rfl nN137 hO ⟨_, _, rfl, kv_argr 0, _, _, rfl, kv_arg _, _, _, rfl, kv_arg _, rfl⟩ (fun q hq => by cases hq) (fun v1 B1 I1 J1 hO1 hA1 hp1 hv1 => ?_)
  obtain ⟨x1, rfl, -, -⟩ := kvo_i hv1
  have h51 : npI [(186, 5, 0, 999)] I1 := npI_cg h5 (hA1.1 186 5 rfl).1
  refine sw_0 (pc' := 999) (L' := lwL m) (st' := []) (M' := tMem B1 I1 J1) xl998 rfl rfl ?_
  refine sw_0 (pc' := 1000) (L' := lwL m) (st' := [.ref 185]) (M' := tMem B1 I1 J1) xl999 rfl rfl ?_
  refine sw_0 (pc' := 1001) (L' := lwL m) (st' := [.retAddr 0, .ref 185]) (M' := tMem B1 I1 J1) xl1000 rfl rfl ?_
  refine sw_0 (pc' := 1002) (L' := lwL m) (st' := [.int (Int32.ofNat m), .retAddr 0, .ref 185]) (M' := tMem B1 I1 J1) xl1001 rfl rfl ?_
  refine sw_0 (pc' := 1003) (L' := lwL m) (st' := [.int 1, .int (Int32.ofNat m), .retAddr 0, .ref 185]) (M' := tMem B1 I1 J1) xl1002 rfl rfl ?_
  refine sw_0 (pc' := 1004) (L' := lwL m) (st' := [.int (Int32.ofNat m + 1), .retAddr 0, .ref 185]) (M' := tMem B1 I1 J1) xl1003 rfl rfl ?_
  refine sw_ial xl1004 (show Int32.ofNat m + 1 = Int32.ofNat (m + 1) from oi_add (b := 1)) (by omega) hl ?_
  refine sw_0 (pc' := 1006) (L' := lwL m) (st' := [.retAddr 0, .int (sc.getD (m + 1) 0), .ref 185]) (M' := tMem B1 I1 J1) xl1005 rfl rfl ?_
  refine sw_0 (pc' := 1007) (L' := lwL m) (st' := [.int (Int32.ofNat m), .retAddr 0, .int (sc.getD (m + 1) 0), .ref 185]) (M' := tMem B1 I1 J1) xl1006 rfl rfl ?_
  refine sw_0 (pc' := 1008) (L' := lwL m) (st' := [.int 2, .int (Int32.ofNat m), .retAddr 0, .int (sc.getD (m + 1) 0), .ref 185]) (M' := tMem B1 I1 J1) xl1007 rfl rfl ?_
  refine sw_0 (pc' := 1009) (L' := lwL m) (st' := [.int (Int32.ofNat m + 2), .retAddr 0, .int (sc.getD (m + 1) 0), .ref 185]) (M' := tMem B1 I1 J1) xl1008 rfl rfl ?_
  refine sw_ial xl1009 (show Int32.ofNat m + 2 = Int32.ofNat (m + 2) from oi_add (b := 2)) (by omega) hl ?_
  refine lw_call0 (c := nc138) (as := [.ref 185, .int (sc.getD (m + 1) 0), .int (sc.getD (m + 2) 0)]) (rest := []) (r' := (xt_289, 4, 1)) xl1010 rfl rfl (lw_recv (c := 12) (pB_nok rfl hO1) rfl rfl rfl) rfl rfl rfl nN138 hO1 ⟨_, _, rfl, kv_argr 185, _, _, rfl, kv_arg _, _, _, rfl, kv_arg _, rfl⟩ h51 (fun v2 B2 I2 J2 hO2 hA2 hp2 hv2 => ?_)
  obtain ⟨x2, rfl, -, -⟩ := kvo_i hv2
  have h52 : npI [(186, 5, 0, 999)] I2 := hp2
  have hR1 := R7_ag hA1 (fun _ => ⟨rfl, rfl, rfl, rfl⟩) hR
  have hR2 := R7_ag hA2 (fun _ => ⟨rfl, rfl, rfl, rfl⟩) hR1
  refine sw_0 (pc' := 1014) (L' := lwL m) (st' := []) (M' := tMem B2 I2 J2) xl1013 rfl rfl ?_
  refine sw_0 (pc' := 2214) (L' := lwL m) (st' := []) (M' := tMem B2 I2 J2) xl1014 rfl rfl ?_
  exact hb B2 I2 J2 ⟨hO2, h52, hR2⟩ ⟨hA2.2.2.1.trans hA1.2.2.1, hA2.2.2.2.trans hA1.2.2.2⟩
set_option maxRecDepth 100000 in
theorem lwc23 {sc : List Int32} {B : xM} {I : tI} {J : tJ} {m : Nat} {Q : Option Value → xM → Prop} (hm : m + 6 ≤ sc.length) (hl : sc.length ≤ 3072) (hI : LInv R7 sc B I J) (hb : ∀ B' I' J', LInv R7 sc B' I' J' → kSz B B' → sw sc rLawX 2214 (lwL m) [] (tMem B' I' J') Q) : sw sc rLawX 1017 (lwL m) [] (tMem B I J) Q := by
  obtain ⟨hO, h5, hR⟩ := hI
  refine sw_0 (pc' := 1018) (L' := lwL m) (st' := [.ref 0]) (M' := tMem B I J) xl1017 rfl rfl ?_
  refine sw_0 (pc' := 1019) (L' := lwL m) (st' := [.retAddr 0, .ref 0]) (M' := tMem B I J) xl1018 rfl rfl ?_
  refine sw_0 (pc' := 1020) (L' := lwL m) (st' := [.int (Int32.ofNat m), .retAddr 0, .ref 0]) (M' := tMem B I J) xl1019 rfl rfl ?_
  refine sw_0 (pc' := 1021) (L' := lwL m) (st' := [.int 1, .int (Int32.ofNat m), .retAddr 0, .ref 0]) (M' := tMem B I J) xl1020 rfl rfl ?_
  refine sw_0 (pc' := 1022) (L' := lwL m) (st' := [.int (Int32.ofNat m + 1), .retAddr 0, .ref 0]) (M' := tMem B I J) xl1021 rfl rfl ?_
  refine sw_ial xl1022 (show Int32.ofNat m + 1 = Int32.ofNat (m + 1) from oi_add (b := 1)) (by omega) hl ?_
  refine sw_0 (pc' := 1024) (L' := lwL m) (st' := [.retAddr 0, .int (sc.getD (m + 1) 0), .ref 0]) (M' := tMem B I J) xl1023 rfl rfl ?_
  refine sw_0 (pc' := 1025) (L' := lwL m) (st' := [.int (Int32.ofNat m), .retAddr 0, .int (sc.getD (m + 1) 0), .ref 0]) (M' := tMem B I J) xl1024 rfl rfl ?_
  refine sw_0 (pc' := 1026) (L' := lwL m) (st' := [.int 2, .int (Int32.ofNat m), .retAddr 0, .int (sc.getD (m + 1) 0), .ref 0]) (M' := tMem B I J) xl1025 rfl rfl ?_
  refine sw_0 (pc' := 1027) (L' := lwL m) (st' := [.int (Int32.ofNat m + 2), .retAddr 0, .int (sc.getD (m + 1) 0), .ref 0]) (M' := tMem B I J) xl1026 rfl rfl ?_
  refine sw_ial xl1027 (show Int32.ofNat m + 2 = Int32.ofNat (m + 2) from oi_add (b := 2)) (by omega) hl ?_
  refine lw_call0 (c := nc139) (as := [.ref 0, .int (sc.getD (m + 1) 0), .int (sc.getD (m + 2) 0)]) (rest := []) (r' := (xt_159, 4, 1)) xl1028 rfl rfl (lw_recv (c := 11) (pB_nok rfl hO) rfl rfl rfl) rfl rfl rfl nN139 hO ⟨_, _, rfl, kv_argr 0, _, _, rfl, kv_arg _, _, _, rfl, kv_arg _, rfl⟩ (fun q hq => by cases hq) (fun v1 B1 I1 J1 hO1 hA1 hp1 hv1 => ?_)
  obtain ⟨x1, rfl, -, -⟩ := kvo_i hv1
  have h51 : npI [(186, 5, 0, 999)] I1 := npI_cg h5 (hA1.1 186 5 rfl).1
  refine sw_0 (pc' := 1032) (L' := lwL m) (st' := []) (M' := tMem B1 I1 J1) xl1031 rfl rfl ?_
  refine sw_0 (pc' := 1033) (L' := lwL m) (st' := [.ref 185]) (M' := tMem B1 I1 J1) xl1032 rfl rfl ?_
  refine sw_0 (pc' := 1034) (L' := lwL m) (st' := [.retAddr 0, .ref 185]) (M' := tMem B1 I1 J1) xl1033 rfl rfl ?_
  refine sw_0 (pc' := 1035) (L' := lwL m) (st' := [.int (Int32.ofNat m), .retAddr 0, .ref 185]) (M' := tMem B1 I1 J1) xl1034 rfl rfl ?_
  refine sw_0 (pc' := 1036) (L' := lwL m) (st' := [.int 1, .int (Int32.ofNat m), .retAddr 0, .ref 185]) (M' := tMem B1 I1 J1) xl1035 rfl rfl ?_
  refine sw_0 (pc' := 1037) (L' := lwL m) (st' := [.int (Int32.ofNat m + 1), .retAddr 0, .ref 185]) (M' := tMem B1 I1 J1) xl1036 rfl rfl ?_
  refine sw_ial xl1037 (show Int32.ofNat m + 1 = Int32.ofNat (m + 1) from oi_add (b := 1)) (by omega) hl ?_
  refine sw_0 (pc' := 1039) (L' := lwL m) (st' := [.retAddr 0, .int (sc.getD (m + 1) 0), .ref 185]) (M' := tMem B1 I1 J1) xl1038 rfl rfl ?_
  refine sw_0 (pc' := 1040) (L' := lwL m) (st' := [.int (Int32.ofNat m), .retAddr 0, .int (sc.getD (m + 1) 0), .ref 185]) (M' := tMem B1 I1 J1) xl1039 rfl rfl ?_
  refine sw_0 (pc' := 1041) (L' := lwL m) (st' := [.int 2, .int (Int32.ofNat m), .retAddr 0, .int (sc.getD (m + 1) 0), .ref 185]) (M' := tMem B1 I1 J1) xl1040 rfl rfl ?_
  refine sw_0 (pc' := 1042) (L' := lwL m) (st' := [.int (Int32.ofNat m + 2), .retAddr 0, .int (sc.getD (m + 1) 0), .ref 185]) (M' := tMem B1 I1 J1) xl1041 rfl rfl ?_
  refine sw_ial xl1042 (show Int32.ofNat m + 2 = Int32.ofNat (m + 2) from oi_add (b := 2)) (by omega) hl ?_
  refine lw_call0 (c := nc140) (as := [.ref 185, .int (sc.getD (m + 1) 0), .int (sc.getD (m + 2) 0)]) (rest := []) (r' := (xt_290, 3, 1)) xl1043 rfl rfl (lw_recv (c := 12) (pB_nok rfl hO1) rfl rfl rfl) rfl rfl rfl nN140 hO1 ⟨_, _, rfl, kv_argr 185, _, _, rfl, kv_arg _, _, _, rfl, kv_arg _, rfl⟩ h51 (fun v2 B2 I2 J2 hO2 hA2 hp2 hv2 => ?_)
  obtain ⟨x2, rfl, -, -⟩ := kvo_i hv2
  have h52 : npI [(186, 5, 0, 999)] I2 := hp2
  have hR1 := R7_ag hA1 (fun _ => ⟨rfl, rfl, rfl, rfl⟩) hR
  have hR2 := R7_ag hA2 (fun _ => ⟨rfl, rfl, rfl, rfl⟩) hR1
  refine sw_0 (pc' := 1047) (L' := lwL m) (st' := []) (M' := tMem B2 I2 J2) xl1046 rfl rfl ?_
  refine sw_0 (pc' := 2214) (L' := lwL m) (st' := []) (M' := tMem B2 I2 J2) xl1047 rfl rfl ?_
  exact hb B2 I2 J2 ⟨hO2, h52, hR2⟩ ⟨hA2.2.2.1.trans hA1.2.2.1, hA2.2.2.2.trans hA1.2.2.2⟩
set_option maxRecDepth 100000 in
theorem lwc24 {sc : List Int32} {B : xM} {I : tI} {J : tJ} {m : Nat} {Q : Option Value → xM → Prop} (hm : m + 6 ≤ sc.length) (hl : sc.length ≤ 3072) (hI : LInv R7 sc B I J) (hb : ∀ B' I' J', LInv R7 sc B' I' J' → kSz B B' → sw sc rLawX 2214 (lwL m) [] (tMem B' I' J') Q) : sw sc rLawX 1050 (lwL m) [] (tMem B I J) Q := by
  obtain ⟨hO, h5, hR⟩ := hI
  refine sw_0 (pc' := 1051) (L' := lwL m) (st' := [.ref 0]) (M' := tMem B I J) xl1050 rfl rfl ?_
  refine sw_0 (pc' := 1052) (L' := lwL m) (st' := [.retAddr 0, .ref 0]) (M' := tMem B I J) xl1051 rfl rfl ?_
  refine sw_0 (pc' := 1053) (L' := lwL m) (st' := [.int (Int32.ofNat m), .retAddr 0, .ref 0]) (M' := tMem B I J) xl1052 rfl rfl ?_
  refine sw_0 (pc' := 1054) (L' := lwL m) (st' := [.int 1, .int (Int32.ofNat m), .retAddr 0, .ref 0]) (M' := tMem B I J) xl1053 rfl rfl ?_
  refine sw_0 (pc' := 1055) (L' := lwL m) (st' := [.int (Int32.ofNat m + 1), .retAddr 0, .ref 0]) (M' := tMem B I J) xl1054 rfl rfl ?_
  refine sw_ial xl1055 (show Int32.ofNat m + 1 = Int32.ofNat (m + 1) from oi_add (b := 1)) (by omega) hl ?_
  refine sw_0 (pc' := 1057) (L' := lwL m) (st' := [.retAddr 0, .int (sc.getD (m + 1) 0), .ref 0]) (M' := tMem B I J) xl1056 rfl rfl ?_
  refine sw_0 (pc' := 1058) (L' := lwL m) (st' := [.int (Int32.ofNat m), .retAddr 0, .int (sc.getD (m + 1) 0), .ref 0]) (M' := tMem B I J) xl1057 rfl rfl ?_
  refine sw_0 (pc' := 1059) (L' := lwL m) (st' := [.int 2, .int (Int32.ofNat m), .retAddr 0, .int (sc.getD (m + 1) 0), .ref 0]) (M' := tMem B I J) xl1058 rfl rfl ?_
  refine sw_0 (pc' := 1060) (L' := lwL m) (st' := [.int (Int32.ofNat m + 2), .retAddr 0, .int (sc.getD (m + 1) 0), .ref 0]) (M' := tMem B I J) xl1059 rfl rfl ?_
  refine sw_ial xl1060 (show Int32.ofNat m + 2 = Int32.ofNat (m + 2) from oi_add (b := 2)) (by omega) hl ?_
  refine lw_call0 (c := nc141) (as := [.ref 0, .int (sc.getD (m + 1) 0), .int (sc.getD (m + 2) 0)]) (rest := []) (r' := (xt_160, 3, 1)) xl1061 rfl rfl (lw_recv (c := 11) (pB_nok rfl hO) rfl rfl rfl) rfl rfl rfl nN141 hO ⟨_, _, rfl, kv_argr 0, _, _, rfl, kv_arg _, _, _, rfl, kv_arg _, rfl⟩ (fun q hq => by cases hq) (fun v1 B1 I1 J1 hO1 hA1 hp1 hv1 => ?_)
  obtain ⟨x1, rfl, -, -⟩ := kvo_i hv1
  have h51 : npI [(186, 5, 0, 999)] I1 := npI_cg h5 (hA1.1 186 5 rfl).1
  refine sw_0 (pc' := 1065) (L' := lwL m) (st' := []) (M' := tMem B1 I1 J1) xl1064 rfl rfl ?_
  refine sw_0 (pc' := 1066) (L' := lwL m) (st' := [.ref 185]) (M' := tMem B1 I1 J1) xl1065 rfl rfl ?_
  refine sw_0 (pc' := 1067) (L' := lwL m) (st' := [.retAddr 0, .ref 185]) (M' := tMem B1 I1 J1) xl1066 rfl rfl ?_
  refine sw_0 (pc' := 1068) (L' := lwL m) (st' := [.int (Int32.ofNat m), .retAddr 0, .ref 185]) (M' := tMem B1 I1 J1) xl1067 rfl rfl ?_
  refine sw_0 (pc' := 1069) (L' := lwL m) (st' := [.int 1, .int (Int32.ofNat m), .retAddr 0, .ref 185]) (M' := tMem B1 I1 J1) xl1068 rfl rfl ?_
  refine sw_0 (pc' := 1070) (L' := lwL m) (st' := [.int (Int32.ofNat m + 1), .retAddr 0, .ref 185]) (M' := tMem B1 I1 J1) xl1069 rfl rfl ?_
  refine sw_ial xl1070 (show Int32.ofNat m + 1 = Int32.ofNat (m + 1) from oi_add (b := 1)) (by omega) hl ?_
  refine sw_0 (pc' := 1072) (L' := lwL m) (st' := [.retAddr 0, .int (sc.getD (m + 1) 0), .ref 185]) (M' := tMem B1 I1 J1) xl1071 rfl rfl ?_
  refine sw_0 (pc' := 1073) (L' := lwL m) (st' := [.int (Int32.ofNat m), .retAddr 0, .int (sc.getD (m + 1) 0), .ref 185]) (M' := tMem B1 I1 J1) xl1072 rfl rfl ?_
  refine sw_0 (pc' := 1074) (L' := lwL m) (st' := [.int 2, .int (Int32.ofNat m), .retAddr 0, .int (sc.getD (m + 1) 0), .ref 185]) (M' := tMem B1 I1 J1) xl1073 rfl rfl ?_
  refine sw_0 (pc' := 1075) (L' := lwL m) (st' := [.int (Int32.ofNat m + 2), .retAddr 0, .int (sc.getD (m + 1) 0), .ref 185]) (M' := tMem B1 I1 J1) xl1074 rfl rfl ?_
  refine sw_ial xl1075 (show Int32.ofNat m + 2 = Int32.ofNat (m + 2) from oi_add (b := 2)) (by omega) hl ?_
  refine lw_call0 (c := nc142) (as := [.ref 185, .int (sc.getD (m + 1) 0), .int (sc.getD (m + 2) 0)]) (rest := []) (r' := (xt_291, 3, 1)) xl1076 rfl rfl (lw_recv (c := 12) (pB_nok rfl hO1) rfl rfl rfl) rfl rfl rfl nN142 hO1 ⟨_, _, rfl, kv_argr 185, _, _, rfl, kv_arg _, _, _, rfl, kv_arg _, rfl⟩ h51 (fun v2 B2 I2 J2 hO2 hA2 hp2 hv2 => ?_)
  obtain ⟨x2, rfl, -, -⟩ := kvo_i hv2
  have h52 : npI [(186, 5, 0, 999)] I2 := hp2
  have hR1 := R7_ag hA1 (fun _ => ⟨rfl, rfl, rfl, rfl⟩) hR
  have hR2 := R7_ag hA2 (fun _ => ⟨rfl, rfl, rfl, rfl⟩) hR1
  refine sw_0 (pc' := 1080) (L' := lwL m) (st' := []) (M' := tMem B2 I2 J2) xl1079 rfl rfl ?_
  refine sw_0 (pc' := 2214) (L' := lwL m) (st' := []) (M' := tMem B2 I2 J2) xl1080 rfl rfl ?_
  exact hb B2 I2 J2 ⟨hO2, h52, hR2⟩ ⟨hA2.2.2.1.trans hA1.2.2.1, hA2.2.2.2.trans hA1.2.2.2⟩
set_option maxRecDepth 100000 in
theorem lwc25 {sc : List Int32} {B : xM} {I : tI} {J : tJ} {m : Nat} {Q : Option Value → xM → Prop} (hm : m + 6 ≤ sc.length) (hl : sc.length ≤ 3072) (hI : LInv R7 sc B I J) (hb : ∀ B' I' J', LInv R7 sc B' I' J' → kSz B B' → sw sc rLawX 2214 (lwL m) [] (tMem B' I' J') Q) : sw sc rLawX 1083 (lwL m) [] (tMem B I J) Q := by
  obtain ⟨hO, h5, hR⟩ := hI
  refine sw_0 (pc' := 1084) (L' := lwL m) (st' := [.ref 0]) (M' := tMem B I J) xl1083 rfl rfl ?_
  refine sw_0 (pc' := 1085) (L' := lwL m) (st' := [.retAddr 0, .ref 0]) (M' := tMem B I J) xl1084 rfl rfl ?_
  refine sw_0 (pc' := 1086) (L' := lwL m) (st' := [.int (Int32.ofNat m), .retAddr 0, .ref 0]) (M' := tMem B I J) xl1085 rfl rfl ?_
  refine sw_0 (pc' := 1087) (L' := lwL m) (st' := [.int 1, .int (Int32.ofNat m), .retAddr 0, .ref 0]) (M' := tMem B I J) xl1086 rfl rfl ?_
  refine sw_0 (pc' := 1088) (L' := lwL m) (st' := [.int (Int32.ofNat m + 1), .retAddr 0, .ref 0]) (M' := tMem B I J) xl1087 rfl rfl ?_
  refine sw_ial xl1088 (show Int32.ofNat m + 1 = Int32.ofNat (m + 1) from oi_add (b := 1)) (by omega) hl ?_
  refine sw_0 (pc' := 1090) (L' := lwL m) (st' := [.retAddr 0, .int (sc.getD (m + 1) 0), .ref 0]) (M' := tMem B I J) xl1089 rfl rfl ?_
  refine sw_0 (pc' := 1091) (L' := lwL m) (st' := [.int (Int32.ofNat m), .retAddr 0, .int (sc.getD (m + 1) 0), .ref 0]) (M' := tMem B I J) xl1090 rfl rfl ?_
  refine sw_0 (pc' := 1092) (L' := lwL m) (st' := [.int 2, .int (Int32.ofNat m), .retAddr 0, .int (sc.getD (m + 1) 0), .ref 0]) (M' := tMem B I J) xl1091 rfl rfl ?_
  refine sw_0 (pc' := 1093) (L' := lwL m) (st' := [.int (Int32.ofNat m + 2), .retAddr 0, .int (sc.getD (m + 1) 0), .ref 0]) (M' := tMem B I J) xl1092 rfl rfl ?_
  refine sw_ial xl1093 (show Int32.ofNat m + 2 = Int32.ofNat (m + 2) from oi_add (b := 2)) (by omega) hl ?_
  refine lw_call0 (c := nc143) (as := [.ref 0, .int (sc.getD (m + 1) 0), .int (sc.getD (m + 2) 0)]) (rest := []) (r' := (xt_161, 3, 3)) xl1094 rfl rfl (lw_recv (c := 11) (pB_nok rfl hO) rfl rfl rfl) rfl rfl rfl nN143 hO ⟨_, _, rfl, kv_argr 0, _, _, rfl, kv_arg _, _, _, rfl, kv_arg _, rfl⟩ (fun q hq => by cases hq) (fun v1 B1 I1 J1 hO1 hA1 hp1 hv1 => ?_)
  obtain ⟨x1, rfl, -, -⟩ := kvo_i hv1
  have h51 : npI [(186, 5, 0, 999)] I1 := npI_cg h5 (hA1.1 186 5 rfl).1
  refine sw_0 (pc' := 1098) (L' := lwL m) (st' := []) (M' := tMem B1 I1 J1) xl1097 rfl rfl ?_
  refine sw_0 (pc' := 1099) (L' := lwL m) (st' := [.ref 185]) (M' := tMem B1 I1 J1) xl1098 rfl rfl ?_
  refine sw_0 (pc' := 1100) (L' := lwL m) (st' := [.retAddr 0, .ref 185]) (M' := tMem B1 I1 J1) xl1099 rfl rfl ?_
  refine sw_0 (pc' := 1101) (L' := lwL m) (st' := [.int (Int32.ofNat m), .retAddr 0, .ref 185]) (M' := tMem B1 I1 J1) xl1100 rfl rfl ?_
  refine sw_0 (pc' := 1102) (L' := lwL m) (st' := [.int 1, .int (Int32.ofNat m), .retAddr 0, .ref 185]) (M' := tMem B1 I1 J1) xl1101 rfl rfl ?_
  refine sw_0 (pc' := 1103) (L' := lwL m) (st' := [.int (Int32.ofNat m + 1), .retAddr 0, .ref 185]) (M' := tMem B1 I1 J1) xl1102 rfl rfl ?_
  refine sw_ial xl1103 (show Int32.ofNat m + 1 = Int32.ofNat (m + 1) from oi_add (b := 1)) (by omega) hl ?_
  refine sw_0 (pc' := 1105) (L' := lwL m) (st' := [.retAddr 0, .int (sc.getD (m + 1) 0), .ref 185]) (M' := tMem B1 I1 J1) xl1104 rfl rfl ?_
  refine sw_0 (pc' := 1106) (L' := lwL m) (st' := [.int (Int32.ofNat m), .retAddr 0, .int (sc.getD (m + 1) 0), .ref 185]) (M' := tMem B1 I1 J1) xl1105 rfl rfl ?_
  refine sw_0 (pc' := 1107) (L' := lwL m) (st' := [.int 2, .int (Int32.ofNat m), .retAddr 0, .int (sc.getD (m + 1) 0), .ref 185]) (M' := tMem B1 I1 J1) xl1106 rfl rfl ?_
  refine sw_0 (pc' := 1108) (L' := lwL m) (st' := [.int (Int32.ofNat m + 2), .retAddr 0, .int (sc.getD (m + 1) 0), .ref 185]) (M' := tMem B1 I1 J1) xl1107 rfl rfl ?_
  refine sw_ial xl1108 (show Int32.ofNat m + 2 = Int32.ofNat (m + 2) from oi_add (b := 2)) (by omega) hl ?_
  refine lw_call0 (c := nc144) (as := [.ref 185, .int (sc.getD (m + 1) 0), .int (sc.getD (m + 2) 0)]) (rest := []) (r' := (xt_292, 3, 3)) xl1109 rfl rfl (lw_recv (c := 12) (pB_nok rfl hO1) rfl rfl rfl) rfl rfl rfl nN144 hO1 ⟨_, _, rfl, kv_argr 185, _, _, rfl, kv_arg _, _, _, rfl, kv_arg _, rfl⟩ h51 (fun v2 B2 I2 J2 hO2 hA2 hp2 hv2 => ?_)
  obtain ⟨x2, rfl, -, -⟩ := kvo_i hv2
  have h52 : npI [(186, 5, 0, 999)] I2 := hp2
  have hR1 := R7_ag hA1 (fun _ => ⟨rfl, rfl, rfl, rfl⟩) hR
  have hR2 := R7_ag hA2 (fun _ => ⟨rfl, rfl, rfl, rfl⟩) hR1
  refine sw_0 (pc' := 1113) (L' := lwL m) (st' := []) (M' := tMem B2 I2 J2) xl1112 rfl rfl ?_
  refine sw_0 (pc' := 2214) (L' := lwL m) (st' := []) (M' := tMem B2 I2 J2) xl1113 rfl rfl ?_
  exact hb B2 I2 J2 ⟨hO2, h52, hR2⟩ ⟨hA2.2.2.1.trans hA1.2.2.1, hA2.2.2.2.trans hA1.2.2.2⟩
set_option maxRecDepth 100000 in
theorem lwc26 {sc : List Int32} {B : xM} {I : tI} {J : tJ} {m : Nat} {Q : Option Value → xM → Prop} (hm : m + 6 ≤ sc.length) (hl : sc.length ≤ 3072) (hI : LInv R7 sc B I J) (hb : ∀ B' I' J', LInv R7 sc B' I' J' → kSz B B' → sw sc rLawX 2214 (lwL m) [] (tMem B' I' J') Q) : sw sc rLawX 1116 (lwL m) [] (tMem B I J) Q := by
  obtain ⟨hO, h5, hR⟩ := hI
  refine sw_0 (pc' := 1117) (L' := lwL m) (st' := [.ref 0]) (M' := tMem B I J) xl1116 rfl rfl ?_
  refine sw_0 (pc' := 1118) (L' := lwL m) (st' := [.retAddr 0, .ref 0]) (M' := tMem B I J) xl1117 rfl rfl ?_
  refine sw_0 (pc' := 1119) (L' := lwL m) (st' := [.int (Int32.ofNat m), .retAddr 0, .ref 0]) (M' := tMem B I J) xl1118 rfl rfl ?_
  refine sw_0 (pc' := 1120) (L' := lwL m) (st' := [.int 1, .int (Int32.ofNat m), .retAddr 0, .ref 0]) (M' := tMem B I J) xl1119 rfl rfl ?_
  refine sw_0 (pc' := 1121) (L' := lwL m) (st' := [.int (Int32.ofNat m + 1), .retAddr 0, .ref 0]) (M' := tMem B I J) xl1120 rfl rfl ?_
  refine sw_ial xl1121 (show Int32.ofNat m + 1 = Int32.ofNat (m + 1) from oi_add (b := 1)) (by omega) hl ?_
  refine sw_0 (pc' := 1123) (L' := lwL m) (st' := [.retAddr 0, .int (sc.getD (m + 1) 0), .ref 0]) (M' := tMem B I J) xl1122 rfl rfl ?_
  refine sw_0 (pc' := 1124) (L' := lwL m) (st' := [.int (Int32.ofNat m), .retAddr 0, .int (sc.getD (m + 1) 0), .ref 0]) (M' := tMem B I J) xl1123 rfl rfl ?_
  refine sw_0 (pc' := 1125) (L' := lwL m) (st' := [.int 2, .int (Int32.ofNat m), .retAddr 0, .int (sc.getD (m + 1) 0), .ref 0]) (M' := tMem B I J) xl1124 rfl rfl ?_
  refine sw_0 (pc' := 1126) (L' := lwL m) (st' := [.int (Int32.ofNat m + 2), .retAddr 0, .int (sc.getD (m + 1) 0), .ref 0]) (M' := tMem B I J) xl1125 rfl rfl ?_
  refine sw_ial xl1126 (show Int32.ofNat m + 2 = Int32.ofNat (m + 2) from oi_add (b := 2)) (by omega) hl ?_
  refine sw_0 (pc' := 1128) (L' := lwL m) (st' := [.retAddr 0, .int (sc.getD (m + 2) 0), .int (sc.getD (m + 1) 0), .ref 0]) (M' := tMem B I J) xl1127 rfl rfl ?_
  refine sw_0 (pc' := 1129) (L' := lwL m) (st' := [.int (Int32.ofNat m), .retAddr 0, .int (sc.getD (m + 2) 0), .int (sc.getD (m + 1) 0), .ref 0]) (M' := tMem B I J) xl1128 rfl rfl ?_
  refine sw_0 (pc' := 1130) (L' := lwL m) (st' := [.int 3, .int (Int32.ofNat m), .retAddr 0, .int (sc.getD (m + 2) 0), .int (sc.getD (m + 1) 0), .ref 0]) (M' := tMem B I J) xl1129 rfl rfl ?_
  refine sw_0 (pc' := 1131) (L' := lwL m) (st' := [.int (Int32.ofNat m + 3), .retAddr 0, .int (sc.getD (m + 2) 0), .int (sc.getD (m + 1) 0), .ref 0]) (M' := tMem B I J) xl1130 rfl rfl ?_
  refine sw_ial xl1131 (show Int32.ofNat m + 3 = Int32.ofNat (m + 3) from oi_add (b := 3)) (by omega) hl ?_
  refine sw_bool (t := 1139) (j := 1140) xl1132 xl1135 xl1136 xl1139 rfl ?_
  refine lw_call0 (c := nc145) (as := [.ref 0, .int (sc.getD (m + 1) 0), .int (sc.getD (m + 2) 0), .int (if (sc.getD (m + 3) 0) = 0 then 0 else 1)]) (rest := []) (r' := (xt_162, 5, 3)) xl1140 rfl rfl (lw_recv (c := 11) (pB_nok rfl hO) rfl rfl rfl) rfl rfl rfl nN145 hO ⟨_, _, rfl, kv_argr 0, _, _, rfl, kv_arg _, _, _, rfl, kv_arg _, _, _, rfl, kv_argb _, rfl⟩ (fun q hq => by cases hq) (fun v1 B1 I1 J1 hO1 hA1 hp1 hv1 => ?_)
  obtain ⟨x1, rfl, -, -⟩ := kvo_i hv1
  have h51 : npI [(186, 5, 0, 999)] I1 := npI_cg h5 (hA1.1 186 5 rfl).1
  refine sw_0 (pc' := 1144) (L' := lwL m) (st' := []) (M' := tMem B1 I1 J1) xl1143 rfl rfl ?_
  refine sw_0 (pc' := 1145) (L' := lwL m) (st' := [.ref 185]) (M' := tMem B1 I1 J1) xl1144 rfl rfl ?_
  refine sw_0 (pc' := 1146) (L' := lwL m) (st' := [.retAddr 0, .ref 185]) (M' := tMem B1 I1 J1) xl1145 rfl rfl ?_
  refine sw_0 (pc' := 1147) (L' := lwL m) (st' := [.int (Int32.ofNat m), .retAddr 0, .ref 185]) (M' := tMem B1 I1 J1) xl1146 rfl rfl ?_
  refine sw_0 (pc' := 1148) (L' := lwL m) (st' := [.int 1, .int (Int32.ofNat m), .retAddr 0, .ref 185]) (M' := tMem B1 I1 J1) xl1147 rfl rfl ?_
  refine sw_0 (pc' := 1149) (L' := lwL m) (st' := [.int (Int32.ofNat m + 1), .retAddr 0, .ref 185]) (M' := tMem B1 I1 J1) xl1148 rfl rfl ?_
  refine sw_ial xl1149 (show Int32.ofNat m + 1 = Int32.ofNat (m + 1) from oi_add (b := 1)) (by omega) hl ?_
  refine sw_0 (pc' := 1151) (L' := lwL m) (st' := [.retAddr 0, .int (sc.getD (m + 1) 0), .ref 185]) (M' := tMem B1 I1 J1) xl1150 rfl rfl ?_
  refine sw_0 (pc' := 1152) (L' := lwL m) (st' := [.int (Int32.ofNat m), .retAddr 0, .int (sc.getD (m + 1) 0), .ref 185]) (M' := tMem B1 I1 J1) xl1151 rfl rfl ?_
  refine sw_0 (pc' := 1153) (L' := lwL m) (st' := [.int 2, .int (Int32.ofNat m), .retAddr 0, .int (sc.getD (m + 1) 0), .ref 185]) (M' := tMem B1 I1 J1) xl1152 rfl rfl ?_
  refine sw_0 (pc' := 1154) (L' := lwL m) (st' := [.int (Int32.ofNat m + 2), .retAddr 0, .int (sc.getD (m + 1) 0), .ref 185]) (M' := tMem B1 I1 J1) xl1153 rfl rfl ?_
  refine sw_ial xl1154 (show Int32.ofNat m + 2 = Int32.ofNat (m + 2) from oi_add (b := 2)) (by omega) hl ?_
  refine sw_0 (pc' := 1156) (L' := lwL m) (st' := [.retAddr 0, .int (sc.getD (m + 2) 0), .int (sc.getD (m + 1) 0), .ref 185]) (M' := tMem B1 I1 J1) xl1155 rfl rfl ?_
  refine sw_0 (pc' := 1157) (L' := lwL m) (st' := [.int (Int32.ofNat m), .retAddr 0, .int (sc.getD (m + 2) 0), .int (sc.getD (m + 1) 0), .ref 185]) (M' := tMem B1 I1 J1) xl1156 rfl rfl ?_
  refine sw_0 (pc' := 1158) (L' := lwL m) (st' := [.int 3, .int (Int32.ofNat m), .retAddr 0, .int (sc.getD (m + 2) 0), .int (sc.getD (m + 1) 0), .ref 185]) (M' := tMem B1 I1 J1) xl1157 rfl rfl ?_
  refine sw_0 (pc' := 1159) (L' := lwL m) (st' := [.int (Int32.ofNat m + 3), .retAddr 0, .int (sc.getD (m + 2) 0), .int (sc.getD (m + 1) 0), .ref 185]) (M' := tMem B1 I1 J1) xl1158 rfl rfl ?_
  refine sw_ial xl1159 (show Int32.ofNat m + 3 = Int32.ofNat (m + 3) from oi_add (b := 3)) (by omega) hl ?_
  refine sw_bool (t := 1167) (j := 1168) xl1160 xl1163 xl1164 xl1167 rfl ?_
  refine lw_call0 (c := nc146) (as := [.ref 185, .int (sc.getD (m + 1) 0), .int (sc.getD (m + 2) 0), .int (if (sc.getD (m + 3) 0) = 0 then 0 else 1)]) (rest := []) (r' := (xt_293, 5, 3)) xl1168 rfl rfl (lw_recv (c := 12) (pB_nok rfl hO1) rfl rfl rfl) rfl rfl rfl nN146 hO1 ⟨_, _, rfl, kv_argr 185, _, _, rfl, kv_arg _, _, _, rfl, kv_arg _, _, _, rfl, kv_argb _, rfl⟩ h51 (fun v2 B2 I2 J2 hO2 hA2 hp2 hv2 => ?_)
  obtain ⟨x2, rfl, -, -⟩ := kvo_i hv2
  have h52 : npI [(186, 5, 0, 999)] I2 := hp2
  have hR1 := R7_ag hA1 (fun _ => ⟨rfl, rfl, rfl, rfl⟩) hR
  have hR2 := R7_ag hA2 (fun _ => ⟨rfl, rfl, rfl, rfl⟩) hR1
  refine sw_0 (pc' := 1172) (L' := lwL m) (st' := []) (M' := tMem B2 I2 J2) xl1171 rfl rfl ?_
  refine sw_0 (pc' := 2214) (L' := lwL m) (st' := []) (M' := tMem B2 I2 J2) xl1172 rfl rfl ?_
  exact hb B2 I2 J2 ⟨hO2, h52, hR2⟩ ⟨hA2.2.2.1.trans hA1.2.2.1, hA2.2.2.2.trans hA1.2.2.2⟩
set_option maxRecDepth 100000 in
theorem lwc27 {sc : List Int32} {B : xM} {I : tI} {J : tJ} {m : Nat} {Q : Option Value → xM → Prop} (hm : m + 6 ≤ sc.length) (hl : sc.length ≤ 3072) (hI : LInv R7 sc B I J) (hb : ∀ B' I' J', LInv R7 sc B' I' J' → kSz B B' → sw sc rLawX 2214 (lwL m) [] (tMem B' I' J') Q) : sw sc rLawX 1175 (lwL m) [] (tMem B I J) Q := by
  obtain ⟨hO, h5, hR⟩ := hI
  refine sw_0 (pc' := 1176) (L' := lwL m) (st' := [.ref 0]) (M' := tMem B I J) xl1175 rfl rfl ?_
  refine sw_0 (pc' := 1177) (L' := lwL m) (st' := [.retAddr 0, .ref 0]) (M' := tMem B I J) xl1176 rfl rfl ?_
  refine sw_0 (pc' := 1178) (L' := lwL m) (st' := [.int (Int32.ofNat m), .retAddr 0, .ref 0]) (M' := tMem B I J) xl1177 rfl rfl ?_
  refine sw_0 (pc' := 1179) (L' := lwL m) (st' := [.int 1, .int (Int32.ofNat m), .retAddr 0, .ref 0]) (M' := tMem B I J) xl1178 rfl rfl ?_
  refine sw_0 (pc' := 1180) (L' := lwL m) (st' := [.int (Int32.ofNat m + 1), .retAddr 0, .ref 0]) (M' := tMem B I J) xl1179 rfl rfl ?_
  refine sw_ial xl1180 (show Int32.ofNat m + 1 = Int32.ofNat (m + 1) from oi_add (b := 1)) (by omega) hl ?_
  refine sw_0 (pc' := 1182) (L' := lwL m) (st' := [.retAddr 0, .int (sc.getD (m + 1) 0), .ref 0]) (M' := tMem B I J) xl1181 rfl rfl ?_
  refine sw_0 (pc' := 1183) (L' := lwL m) (st' := [.int (Int32.ofNat m), .retAddr 0, .int (sc.getD (m + 1) 0), .ref 0]) (M' := tMem B I J) xl1182 rfl rfl ?_
  refine sw_0 (pc' := 1184) (L' := lwL m) (st' := [.int 2, .int (Int32.ofNat m), .retAddr 0, .int (sc.getD (m + 1) 0), .ref 0]) (M' := tMem B I J) xl1183 rfl rfl ?_
  refine sw_0 (pc' := 1185) (L' := lwL m) (st' := [.int (Int32.ofNat m + 2), .retAddr 0, .int (sc.getD (m + 1) 0), .ref 0]) (M' := tMem B I J) xl1184 rfl rfl ?_
  refine sw_ial xl1185 (show Int32.ofNat m + 2 = Int32.ofNat (m + 2) from oi_add (b := 2)) (by omega) hl ?_
  refine sw_0 (pc' := 1187) (L' := lwL m) (st' := [.retAddr 0, .int (sc.getD (m + 2) 0), .int (sc.getD (m + 1) 0), .ref 0]) (M' := tMem B I J) xl1186 rfl rfl ?_
  refine sw_0 (pc' := 1188) (L' := lwL m) (st' := [.int (Int32.ofNat m), .retAddr 0, .int (sc.getD (m + 2) 0), .int (sc.getD (m + 1) 0), .ref 0]) (M' := tMem B I J) xl1187 rfl rfl ?_
  refine sw_0 (pc' := 1189) (L' := lwL m) (st' := [.int 3, .int (Int32.ofNat m), .retAddr 0, .int (sc.getD (m + 2) 0), .int (sc.getD (m + 1) 0), .ref 0]) (M' := tMem B I J) xl1188 rfl rfl ?_
  refine sw_0 (pc' := 1190) (L' := lwL m) (st' := [.int (Int32.ofNat m + 3), .retAddr 0, .int (sc.getD (m + 2) 0), .int (sc.getD (m + 1) 0), .ref 0]) (M' := tMem B I J) xl1189 rfl rfl ?_
  refine sw_ial xl1190 (show Int32.ofNat m + 3 = Int32.ofNat (m + 3) from oi_add (b := 3)) (by omega) hl ?_
  refine lw_call0 (c := nc147) (as := [.ref 0, .int (sc.getD (m + 1) 0), .int (sc.getD (m + 2) 0), .int (sc.getD (m + 3) 0)]) (rest := []) (r' := (xt_163, 4, 3)) xl1191 rfl rfl (lw_recv (c := 11) (pB_nok rfl hO) rfl rfl rfl) rfl rfl rfl nN147 hO ⟨_, _, rfl, kv_argr 0, _, _, rfl, kv_arg _, _, _, rfl, kv_arg _, _, _, rfl, kv_arg _, rfl⟩ (fun q hq => by cases hq) (fun v1 B1 I1 J1 hO1 hA1 hp1 hv1 => ?_)
  obtain ⟨x1, rfl, -, -⟩ := kvo_i hv1
  have h51 : npI [(186, 5, 0, 999)] I1 := npI_cg h5 (hA1.1 186 5 rfl).1
  refine sw_0 (pc' := 1195) (L' := lwL m) (st' := []) (M' := tMem B1 I1 J1) xl1194 rfl rfl ?_
  refine sw_0 (pc' := 1196) (L' := lwL m) (st' := [.ref 185]) (M' := tMem B1 I1 J1) xl1195 rfl rfl ?_
  refine sw_0 (pc' := 1197) (L' := lwL m) (st' := [.retAddr 0, .ref 185]) (M' := tMem B1 I1 J1) xl1196 rfl rfl ?_
  refine sw_0 (pc' := 1198) (L' := lwL m) (st' := [.int (Int32.ofNat m), .retAddr 0, .ref 185]) (M' := tMem B1 I1 J1) xl1197 rfl rfl ?_
  refine sw_0 (pc' := 1199) (L' := lwL m) (st' := [.int 1, .int (Int32.ofNat m), .retAddr 0, .ref 185]) (M' := tMem B1 I1 J1) xl1198 rfl rfl ?_
  refine sw_0 (pc' := 1200) (L' := lwL m) (st' := [.int (Int32.ofNat m + 1), .retAddr 0, .ref 185]) (M' := tMem B1 I1 J1) xl1199 rfl rfl ?_
  refine sw_ial xl1200 (show Int32.ofNat m + 1 = Int32.ofNat (m + 1) from oi_add (b := 1)) (by omega) hl ?_
  refine sw_0 (pc' := 1202) (L' := lwL m) (st' := [.retAddr 0, .int (sc.getD (m + 1) 0), .ref 185]) (M' := tMem B1 I1 J1) xl1201 rfl rfl ?_
  refine sw_0 (pc' := 1203) (L' := lwL m) (st' := [.int (Int32.ofNat m), .retAddr 0, .int (sc.getD (m + 1) 0), .ref 185]) (M' := tMem B1 I1 J1) xl1202 rfl rfl ?_
  refine sw_0 (pc' := 1204) (L' := lwL m) (st' := [.int 2, .int (Int32.ofNat m), .retAddr 0, .int (sc.getD (m + 1) 0), .ref 185]) (M' := tMem B1 I1 J1) xl1203 rfl rfl ?_
  refine sw_0 (pc' := 1205) (L' := lwL m) (st' := [.int (Int32.ofNat m + 2), .retAddr 0, .int (sc.getD (m + 1) 0), .ref 185]) (M' := tMem B1 I1 J1) xl1204 rfl rfl ?_
  refine sw_ial xl1205 (show Int32.ofNat m + 2 = Int32.ofNat (m + 2) from oi_add (b := 2)) (by omega) hl ?_
  refine sw_0 (pc' := 1207) (L' := lwL m) (st' := [.retAddr 0, .int (sc.getD (m + 2) 0), .int (sc.getD (m + 1) 0), .ref 185]) (M' := tMem B1 I1 J1) xl1206 rfl rfl ?_
  refine sw_0 (pc' := 1208) (L' := lwL m) (st' := [.int (Int32.ofNat m), .retAddr 0, .int (sc.getD (m + 2) 0), .int (sc.getD (m + 1) 0), .ref 185]) (M' := tMem B1 I1 J1) xl1207 rfl rfl ?_
  refine sw_0 (pc' := 1209) (L' := lwL m) (st' := [.int 3, .int (Int32.ofNat m), .retAddr 0, .int (sc.getD (m + 2) 0), .int (sc.getD (m + 1) 0), .ref 185]) (M' := tMem B1 I1 J1) xl1208 rfl rfl ?_
  refine sw_0 (pc' := 1210) (L' := lwL m) (st' := [.int (Int32.ofNat m + 3), .retAddr 0, .int (sc.getD (m + 2) 0), .int (sc.getD (m + 1) 0), .ref 185]) (M' := tMem B1 I1 J1) xl1209 rfl rfl ?_
  refine sw_ial xl1210 (show Int32.ofNat m + 3 = Int32.ofNat (m + 3) from oi_add (b := 3)) (by omega) hl ?_
  refine lw_call0 (c := nc148) (as := [.ref 185, .int (sc.getD (m + 1) 0), .int (sc.getD (m + 2) 0), .int (sc.getD (m + 3) 0)]) (rest := []) (r' := (xt_294, 4, 3)) xl1211 rfl rfl (lw_recv (c := 12) (pB_nok rfl hO1) rfl rfl rfl) rfl rfl rfl nN148 hO1 ⟨_, _, rfl, kv_argr 185, _, _, rfl, kv_arg _, _, _, rfl, kv_arg _, _, _, rfl, kv_arg _, rfl⟩ h51 (fun v2 B2 I2 J2 hO2 hA2 hp2 hv2 => ?_)
  obtain ⟨x2, rfl, -, -⟩ := kvo_i hv2
  have h52 : npI [(186, 5, 0, 999)] I2 := hp2
  have hR1 := R7_ag hA1 (fun _ => ⟨rfl, rfl, rfl, rfl⟩) hR
  have hR2 := R7_ag hA2 (fun _ => ⟨rfl, rfl, rfl, rfl⟩) hR1
  refine sw_0 (pc' := 1215) (L' := lwL m) (st' := []) (M' := tMem B2 I2 J2) xl1214 rfl rfl ?_
  refine sw_0 (pc' := 2214) (L' := lwL m) (st' := []) (M' := tMem B2 I2 J2) xl1215 rfl rfl ?_
  exact hb B2 I2 J2 ⟨hO2, h52, hR2⟩ ⟨hA2.2.2.1.trans hA1.2.2.1, hA2.2.2.2.trans hA1.2.2.2⟩
set_option maxRecDepth 100000 in
theorem lwc28 {sc : List Int32} {B : xM} {I : tI} {J : tJ} {m : Nat} {Q : Option Value → xM → Prop} (hm : m + 6 ≤ sc.length) (hl : sc.length ≤ 3072) (hI : LInv R7 sc B I J) (hb : ∀ B' I' J', LInv R7 sc B' I' J' → kSz B B' → sw sc rLawX 2214 (lwL m) [] (tMem B' I' J') Q) : sw sc rLawX 1218 (lwL m) [] (tMem B I J) Q := by
  obtain ⟨hO, h5, hR⟩ := hI
  refine sw_0 (pc' := 1219) (L' := lwL m) (st' := [.ref 0]) (M' := tMem B I J) xl1218 rfl rfl ?_
  refine sw_0 (pc' := 1220) (L' := lwL m) (st' := [.retAddr 0, .ref 0]) (M' := tMem B I J) xl1219 rfl rfl ?_
  refine sw_0 (pc' := 1221) (L' := lwL m) (st' := [.int (Int32.ofNat m), .retAddr 0, .ref 0]) (M' := tMem B I J) xl1220 rfl rfl ?_
  refine sw_0 (pc' := 1222) (L' := lwL m) (st' := [.int 1, .int (Int32.ofNat m), .retAddr 0, .ref 0]) (M' := tMem B I J) xl1221 rfl rfl ?_
  refine sw_0 (pc' := 1223) (L' := lwL m) (st' := [.int (Int32.ofNat m + 1), .retAddr 0, .ref 0]) (M' := tMem B I J) xl1222 rfl rfl ?_
  refine sw_ial xl1223 (show Int32.ofNat m + 1 = Int32.ofNat (m + 1) from oi_add (b := 1)) (by omega) hl ?_
  refine sw_0 (pc' := 1225) (L' := lwL m) (st' := [.retAddr 0, .int (sc.getD (m + 1) 0), .ref 0]) (M' := tMem B I J) xl1224 rfl rfl ?_
  refine sw_0 (pc' := 1226) (L' := lwL m) (st' := [.int (Int32.ofNat m), .retAddr 0, .int (sc.getD (m + 1) 0), .ref 0]) (M' := tMem B I J) xl1225 rfl rfl ?_
  refine sw_0 (pc' := 1227) (L' := lwL m) (st' := [.int 2, .int (Int32.ofNat m), .retAddr 0, .int (sc.getD (m + 1) 0), .ref 0]) (M' := tMem B I J) xl1226 rfl rfl ?_
  refine sw_0 (pc' := 1228) (L' := lwL m) (st' := [.int (Int32.ofNat m + 2), .retAddr 0, .int (sc.getD (m + 1) 0), .ref 0]) (M' := tMem B I J) xl1227 rfl rfl ?_
  refine sw_ial xl1228 (show Int32.ofNat m + 2 = Int32.ofNat (m + 2) from oi_add (b := 2)) (by omega) hl ?_
  refine sw_0 (pc' := 1230) (L' := lwL m) (st' := [.retAddr 0, .int (sc.getD (m + 2) 0), .int (sc.getD (m + 1) 0), .ref 0]) (M' := tMem B I J) xl1229 rfl rfl ?_
  refine sw_0 (pc' := 1231) (L' := lwL m) (st' := [.int (Int32.ofNat m), .retAddr 0, .int (sc.getD (m + 2) 0), .int (sc.getD (m + 1) 0), .ref 0]) (M' := tMem B I J) xl1230 rfl rfl ?_
  refine sw_0 (pc' := 1232) (L' := lwL m) (st' := [.int 3, .int (Int32.ofNat m), .retAddr 0, .int (sc.getD (m + 2) 0), .int (sc.getD (m + 1) 0), .ref 0]) (M' := tMem B I J) xl1231 rfl rfl ?_
  refine sw_0 (pc' := 1233) (L' := lwL m) (st' := [.int (Int32.ofNat m + 3), .retAddr 0, .int (sc.getD (m + 2) 0), .int (sc.getD (m + 1) 0), .ref 0]) (M' := tMem B I J) xl1232 rfl rfl ?_
  refine sw_ial xl1233 (show Int32.ofNat m + 3 = Int32.ofNat (m + 3) from oi_add (b := 3)) (by omega) hl ?_
  refine lw_call0 (c := nc149) (as := [.ref 0, .int (sc.getD (m + 1) 0), .int (sc.getD (m + 2) 0), .int (sc.getD (m + 3) 0)]) (rest := []) (r' := (xt_164, 5, 3)) xl1234 rfl rfl (lw_recv (c := 11) (pB_nok rfl hO) rfl rfl rfl) rfl rfl rfl nN149 hO ⟨_, _, rfl, kv_argr 0, _, _, rfl, kv_arg _, _, _, rfl, kv_arg _, _, _, rfl, kv_arg _, rfl⟩ (fun q hq => by cases hq) (fun v1 B1 I1 J1 hO1 hA1 hp1 hv1 => ?_)
  obtain ⟨x1, rfl, -, -⟩ := kvo_i hv1
  have h51 : npI [(186, 5, 0, 999)] I1 := npI_cg h5 (hA1.1 186 5 rfl).1
  refine sw_0 (pc' := 1238) (L' := lwL m) (st' := []) (M' := tMem B1 I1 J1) xl1237 rfl rfl ?_
  refine sw_0 (pc' := 1239) (L' := lwL m) (st' := [.ref 185]) (M' := tMem B1 I1 J1) xl1238 rfl rfl ?_
  refine sw_0 (pc' := 1240) (L' := lwL m) (st' := [.retAddr 0, .ref 185]) (M' := tMem B1 I1 J1) xl1239 rfl rfl ?_
  refine sw_0 (pc' := 1241) (L' := lwL m) (st' := [.int (Int32.ofNat m), .retAddr 0, .ref 185]) (M' := tMem B1 I1 J1) xl1240 rfl rfl ?_
  refine sw_0 (pc' := 1242) (L' := lwL m) (st' := [.int 1, .int (Int32.ofNat m), .retAddr 0, .ref 185]) (M' := tMem B1 I1 J1) xl1241 rfl rfl ?_
  refine sw_0 (pc' := 1243) (L' := lwL m) (st' := [.int (Int32.ofNat m + 1), .retAddr 0, .ref 185]) (M' := tMem B1 I1 J1) xl1242 rfl rfl ?_
  refine sw_ial xl1243 (show Int32.ofNat m + 1 = Int32.ofNat (m + 1) from oi_add (b := 1)) (by omega) hl ?_
  refine sw_0 (pc' := 1245) (L' := lwL m) (st' := [.retAddr 0, .int (sc.getD (m + 1) 0), .ref 185]) (M' := tMem B1 I1 J1) xl1244 rfl rfl ?_
  refine sw_0 (pc' := 1246) (L' := lwL m) (st' := [.int (Int32.ofNat m), .retAddr 0, .int (sc.getD (m + 1) 0), .ref 185]) (M' := tMem B1 I1 J1) xl1245 rfl rfl ?_
  refine sw_0 (pc' := 1247) (L' := lwL m) (st' := [.int 2, .int (Int32.ofNat m), .retAddr 0, .int (sc.getD (m + 1) 0), .ref 185]) (M' := tMem B1 I1 J1) xl1246 rfl rfl ?_
  refine sw_0 (pc' := 1248) (L' := lwL m) (st' := [.int (Int32.ofNat m + 2), .retAddr 0, .int (sc.getD (m + 1) 0), .ref 185]) (M' := tMem B1 I1 J1) xl1247 rfl rfl ?_
  refine sw_ial xl1248 (show Int32.ofNat m + 2 = Int32.ofNat (m + 2) from oi_add (b := 2)) (by omega) hl ?_
  refine sw_0 (pc' := 1250) (L' := lwL m) (st' := [.retAddr 0, .int (sc.getD (m + 2) 0), .int (sc.getD (m + 1) 0), .ref 185]) (M' := tMem B1 I1 J1) xl1249 rfl rfl ?_
  refine sw_0 (pc' := 1251) (L' := lwL m) (st' := [.int (Int32.ofNat m), .retAddr 0, .int (sc.getD (m + 2) 0), .int (sc.getD (m + 1) 0), .ref 185]) (M' := tMem B1 I1 J1) xl1250 rfl rfl ?_
  refine sw_0 (pc' := 1252) (L' := lwL m) (st' := [.int 3, .int (Int32.ofNat m), .retAddr 0, .int (sc.getD (m + 2) 0), .int (sc.getD (m + 1) 0), .ref 185]) (M' := tMem B1 I1 J1) xl1251 rfl rfl ?_
  refine sw_0 (pc' := 1253) (L' := lwL m) (st' := [.int (Int32.ofNat m + 3), .retAddr 0, .int (sc.getD (m + 2) 0), .int (sc.getD (m + 1) 0), .ref 185]) (M' := tMem B1 I1 J1) xl1252 rfl rfl ?_
  refine sw_ial xl1253 (show Int32.ofNat m + 3 = Int32.ofNat (m + 3) from oi_add (b := 3)) (by omega) hl ?_
  refine lw_call0 (c := nc150) (as := [.ref 185, .int (sc.getD (m + 1) 0), .int (sc.getD (m + 2) 0), .int (sc.getD (m + 3) 0)]) (rest := []) (r' := (xt_295, 5, 3)) xl1254 rfl rfl (lw_recv (c := 12) (pB_nok rfl hO1) rfl rfl rfl) rfl rfl rfl nN150 hO1 ⟨_, _, rfl, kv_argr 185, _, _, rfl, kv_arg _, _, _, rfl, kv_arg _, _, _, rfl, kv_arg _, rfl⟩ h51 (fun v2 B2 I2 J2 hO2 hA2 hp2 hv2 => ?_)
  obtain ⟨x2, rfl, -, -⟩ := kvo_i hv2
  have h52 : npI [(186, 5, 0, 999)] I2 := hp2
  have hR1 := R7_ag hA1 (fun _ => ⟨rfl, rfl, rfl, rfl⟩) hR
  have hR2 := R7_ag hA2 (fun _ => ⟨rfl, rfl, rfl, rfl⟩) hR1
  refine sw_0 (pc' := 1258) (L' := lwL m) (st' := []) (M' := tMem B2 I2 J2) xl1257 rfl rfl ?_
  refine sw_0 (pc' := 2214) (L' := lwL m) (st' := []) (M' := tMem B2 I2 J2) xl1258 rfl rfl ?_
  exact hb B2 I2 J2 ⟨hO2, h52, hR2⟩ ⟨hA2.2.2.1.trans hA1.2.2.1, hA2.2.2.2.trans hA1.2.2.2⟩
set_option maxRecDepth 100000 in
theorem lwc29 {sc : List Int32} {B : xM} {I : tI} {J : tJ} {m : Nat} {Q : Option Value → xM → Prop} (hm : m + 6 ≤ sc.length) (hl : sc.length ≤ 3072) (hI : LInv R7 sc B I J) (hb : ∀ B' I' J', LInv R7 sc B' I' J' → kSz B B' → sw sc rLawX 2214 (lwL m) [] (tMem B' I' J') Q) : sw sc rLawX 1261 (lwL m) [] (tMem B I J) Q := by
  obtain ⟨hO, h5, hR⟩ := hI
  refine sw_0 (pc' := 1262) (L' := lwL m) (st' := [.ref 0]) (M' := tMem B I J) xl1261 rfl rfl ?_
  refine sw_0 (pc' := 1263) (L' := lwL m) (st' := [.retAddr 0, .ref 0]) (M' := tMem B I J) xl1262 rfl rfl ?_
  refine sw_0 (pc' := 1264) (L' := lwL m) (st' := [.int (Int32.ofNat m), .retAddr 0, .ref 0]) (M' := tMem B I J) xl1263 rfl rfl ?_
  refine sw_0 (pc' := 1265) (L' := lwL m) (st' := [.int 1, .int (Int32.ofNat m), .retAddr 0, .ref 0]) (M' := tMem B I J) xl1264 rfl rfl ?_
  refine sw_0 (pc' := 1266) (L' := lwL m) (st' := [.int (Int32.ofNat m + 1), .retAddr 0, .ref 0]) (M' := tMem B I J) xl1265 rfl rfl ?_
  refine sw_ial xl1266 (show Int32.ofNat m + 1 = Int32.ofNat (m + 1) from oi_add (b := 1)) (by omega) hl ?_
  refine lw_call0 (c := nc151) (as := [.ref 0, .int (sc.getD (m + 1) 0)]) (rest := []) (r' := (xt_165, 2, 1)) xl1267 rfl rfl (lw_recv (c := 11) (pB_nok rfl hO) rfl rfl rfl) rfl rfl rfl nN151 hO ⟨_, _, rfl, kv_argr 0, _, _, rfl, kv_arg _, rfl⟩ (fun q hq => by cases hq) (fun v1 B1 I1 J1 hO1 hA1 hp1 hv1 => ?_)
  obtain ⟨x1, rfl, -, -⟩ := kvo_i hv1
  have h51 : npI [(186, 5, 0, 999)] I1 := npI_cg h5 (hA1.1 186 5 rfl).1
  refine sw_0 (pc' := 1271) (L' := lwL m) (st' := []) (M' := tMem B1 I1 J1) xl1270 rfl rfl ?_
  refine sw_0 (pc' := 1272) (L' := lwL m) (st' := [.ref 185]) (M' := tMem B1 I1 J1) xl1271 rfl rfl ?_
  refine sw_0 (pc' := 1273) (L' := lwL m) (st' := [.retAddr 0, .ref 185]) (M' := tMem B1 I1 J1) xl1272 rfl rfl ?_
  refine sw_0 (pc' := 1274) (L' := lwL m) (st' := [.int (Int32.ofNat m), .retAddr 0, .ref 185]) (M' := tMem B1 I1 J1) xl1273 rfl rfl ?_
  refine sw_0 (pc' := 1275) (L' := lwL m) (st' := [.int 1, .int (Int32.ofNat m), .retAddr 0, .ref 185]) (M' := tMem B1 I1 J1) xl1274 rfl rfl ?_
  refine sw_0 (pc' := 1276) (L' := lwL m) (st' := [.int (Int32.ofNat m + 1), .retAddr 0, .ref 185]) (M' := tMem B1 I1 J1) xl1275 rfl rfl ?_
  refine sw_ial xl1276 (show Int32.ofNat m + 1 = Int32.ofNat (m + 1) from oi_add (b := 1)) (by omega) hl ?_
  refine lw_call0 (c := nc152) (as := [.ref 185, .int (sc.getD (m + 1) 0)]) (rest := []) (r' := (xt_299, 2, 1)) xl1277 rfl rfl (lw_recv (c := 12) (pB_nok rfl hO1) rfl rfl rfl) rfl rfl rfl nN152 hO1 ⟨_, _, rfl, kv_argr 185, _, _, rfl, kv_arg _, rfl⟩ h51 (fun v2 B2 I2 J2 hO2 hA2 hp2 hv2 => ?_)
  obtain ⟨x2, rfl, -, -⟩ := kvo_i hv2
  have h52 : npI [(186, 5, 0, 999)] I2 := hp2
  have hR1 := R7_ag hA1 (fun _ => ⟨rfl, rfl, rfl, rfl⟩) hR
  have hR2 := R7_ag hA2 (fun _ => ⟨rfl, rfl, rfl, rfl⟩) hR1
  refine sw_0 (pc' := 1281) (L' := lwL m) (st' := []) (M' := tMem B2 I2 J2) xl1280 rfl rfl ?_
  refine sw_0 (pc' := 2214) (L' := lwL m) (st' := []) (M' := tMem B2 I2 J2) xl1281 rfl rfl ?_
  exact hb B2 I2 J2 ⟨hO2, h52, hR2⟩ ⟨hA2.2.2.1.trans hA1.2.2.1, hA2.2.2.2.trans hA1.2.2.2⟩
set_option maxRecDepth 100000 in
theorem lwc30 {sc : List Int32} {B : xM} {I : tI} {J : tJ} {m : Nat} {Q : Option Value → xM → Prop} (hm : m + 6 ≤ sc.length) (hl : sc.length ≤ 3072) (hI : LInv R7 sc B I J) (hb : ∀ B' I' J', LInv R7 sc B' I' J' → kSz B B' → sw sc rLawX 2214 (lwL m) [] (tMem B' I' J') Q) : sw sc rLawX 1284 (lwL m) [] (tMem B I J) Q := by
  obtain ⟨hO, h5, hR⟩ := hI
  refine sw_0 (pc' := 1285) (L' := lwL m) (st' := [.ref 0]) (M' := tMem B I J) xl1284 rfl rfl ?_
  refine sw_0 (pc' := 1286) (L' := lwL m) (st' := [.retAddr 0, .ref 0]) (M' := tMem B I J) xl1285 rfl rfl ?_
  refine sw_0 (pc' := 1287) (L' := lwL m) (st' := [.int (Int32.ofNat m), .retAddr 0, .ref 0]) (M' := tMem B I J) xl1286 rfl rfl ?_
  refine sw_0 (pc' := 1288) (L' := lwL m) (st' := [.int 1, .int (Int32.ofNat m), .retAddr 0, .ref 0]) (M' := tMem B I J) xl1287 rfl rfl ?_
  refine sw_0 (pc' := 1289) (L' := lwL m) (st' := [.int (Int32.ofNat m + 1), .retAddr 0, .ref 0]) (M' := tMem B I J) xl1288 rfl rfl ?_
  refine sw_ial xl1289 (show Int32.ofNat m + 1 = Int32.ofNat (m + 1) from oi_add (b := 1)) (by omega) hl ?_
  refine lw_call0 (c := nc153) (as := [.ref 0, .int (sc.getD (m + 1) 0)]) (rest := []) (r' := (xt_166, 2, 1)) xl1290 rfl rfl (lw_recv (c := 11) (pB_nok rfl hO) rfl rfl rfl) rfl rfl rfl nN153 hO ⟨_, _, rfl, kv_argr 0, _, _, rfl, kv_arg _, rfl⟩ (fun q hq => by cases hq) (fun v1 B1 I1 J1 hO1 hA1 hp1 hv1 => ?_)
  obtain ⟨x1, rfl, -, -⟩ := kvo_i hv1
  have h51 : npI [(186, 5, 0, 999)] I1 := npI_cg h5 (hA1.1 186 5 rfl).1
  refine sw_0 (pc' := 1294) (L' := lwL m) (st' := []) (M' := tMem B1 I1 J1) xl1293 rfl rfl ?_
  refine sw_0 (pc' := 1295) (L' := lwL m) (st' := [.ref 185]) (M' := tMem B1 I1 J1) xl1294 rfl rfl ?_
  refine sw_0 (pc' := 1296) (L' := lwL m) (st' := [.retAddr 0, .ref 185]) (M' := tMem B1 I1 J1) xl1295 rfl rfl ?_
  refine sw_0 (pc' := 1297) (L' := lwL m) (st' := [.int (Int32.ofNat m), .retAddr 0, .ref 185]) (M' := tMem B1 I1 J1) xl1296 rfl rfl ?_
  refine sw_0 (pc' := 1298) (L' := lwL m) (st' := [.int 1, .int (Int32.ofNat m), .retAddr 0, .ref 185]) (M' := tMem B1 I1 J1) xl1297 rfl rfl ?_
  refine sw_0 (pc' := 1299) (L' := lwL m) (st' := [.int (Int32.ofNat m + 1), .retAddr 0, .ref 185]) (M' := tMem B1 I1 J1) xl1298 rfl rfl ?_
  refine sw_ial xl1299 (show Int32.ofNat m + 1 = Int32.ofNat (m + 1) from oi_add (b := 1)) (by omega) hl ?_
  refine lw_call0 (c := nc155) (as := [.ref 185, .int (sc.getD (m + 1) 0)]) (rest := []) (r' := (xt_301, 2, 1)) xl1300 rfl rfl (lw_recv (c := 12) (pB_nok rfl hO1) rfl rfl rfl) rfl rfl rfl nN155 hO1 ⟨_, _, rfl, kv_argr 185, _, _, rfl, kv_arg _, rfl⟩ h51 (fun v2 B2 I2 J2 hO2 hA2 hp2 hv2 => ?_)
  obtain ⟨x2, rfl, -, -⟩ := kvo_i hv2
  have h52 : npI [(186, 5, 0, 999)] I2 := hp2
  have hR1 := R7_ag hA1 (fun _ => ⟨rfl, rfl, rfl, rfl⟩) hR
  have hR2 := R7_ag hA2 (fun _ => ⟨rfl, rfl, rfl, rfl⟩) hR1
  refine sw_0 (pc' := 1304) (L' := lwL m) (st' := []) (M' := tMem B2 I2 J2) xl1303 rfl rfl ?_
  refine sw_0 (pc' := 2214) (L' := lwL m) (st' := []) (M' := tMem B2 I2 J2) xl1304 rfl rfl ?_
  exact hb B2 I2 J2 ⟨hO2, h52, hR2⟩ ⟨hA2.2.2.1.trans hA1.2.2.1, hA2.2.2.2.trans hA1.2.2.2⟩
set_option maxRecDepth 100000 in
theorem lwc31 {sc : List Int32} {B : xM} {I : tI} {J : tJ} {m : Nat} {Q : Option Value → xM → Prop} (hm : m + 6 ≤ sc.length) (hl : sc.length ≤ 3072) (hI : LInv R7 sc B I J) (hb : ∀ B' I' J', LInv R7 sc B' I' J' → kSz B B' → sw sc rLawX 2214 (lwL m) [] (tMem B' I' J') Q) : sw sc rLawX 1307 (lwL m) [] (tMem B I J) Q := by
  obtain ⟨hO, h5, hR⟩ := hI
  refine sw_0 (pc' := 1308) (L' := lwL m) (st' := [.ref 0]) (M' := tMem B I J) xl1307 rfl rfl ?_
  refine sw_0 (pc' := 1309) (L' := lwL m) (st' := [.retAddr 0, .ref 0]) (M' := tMem B I J) xl1308 rfl rfl ?_
  refine sw_0 (pc' := 1310) (L' := lwL m) (st' := [.int (Int32.ofNat m), .retAddr 0, .ref 0]) (M' := tMem B I J) xl1309 rfl rfl ?_
  refine sw_0 (pc' := 1311) (L' := lwL m) (st' := [.int 1, .int (Int32.ofNat m), .retAddr 0, .ref 0]) (M' := tMem B I J) xl1310 rfl rfl ?_
  refine sw_0 (pc' := 1312) (L' := lwL m) (st' := [.int (Int32.ofNat m + 1), .retAddr 0, .ref 0]) (M' := tMem B I J) xl1311 rfl rfl ?_
  refine sw_ial xl1312 (show Int32.ofNat m + 1 = Int32.ofNat (m + 1) from oi_add (b := 1)) (by omega) hl ?_
  refine sw_0 (pc' := 1314) (L' := lwL m) (st' := [.retAddr 0, .int (sc.getD (m + 1) 0), .ref 0]) (M' := tMem B I J) xl1313 rfl rfl ?_
  refine sw_0 (pc' := 1315) (L' := lwL m) (st' := [.int (Int32.ofNat m), .retAddr 0, .int (sc.getD (m + 1) 0), .ref 0]) (M' := tMem B I J) xl1314 rfl rfl ?_
  refine sw_0 (pc' := 1316) (L' := lwL m) (st' := [.int 2, .int (Int32.ofNat m), .retAddr 0, .int (sc.getD (m + 1) 0), .ref 0]) (M' := tMem B I J) xl1315 rfl rfl ?_
  refine sw_0 (pc' := 1317) (L' := lwL m) (st' := [.int (Int32.ofNat m + 2), .retAddr 0, .int (sc.getD (m + 1) 0), .ref 0]) (M' := tMem B I J) xl1316 rfl rfl ?_
  refine sw_ial xl1317 (show Int32.ofNat m + 2 = Int32.ofNat (m + 2) from oi_add (b := 2)) (by omega) hl ?_
  refine lw_call0 (c := nc160) (as := [.ref 0, .int (sc.getD (m + 1) 0), .int (sc.getD (m + 2) 0)]) (rest := []) (r' := (xt_167, 3, 1)) xl1318 rfl rfl (lw_recv (c := 11) (pB_nok rfl hO) rfl rfl rfl) rfl rfl rfl nN160 hO ⟨_, _, rfl, kv_argr 0, _, _, rfl, kv_arg _, _, _, rfl, kv_arg _, rfl⟩ (fun q hq => by cases hq) (fun v1 B1 I1 J1 hO1 hA1 hp1 hv1 => ?_)
  obtain ⟨x1, rfl, -, -⟩ := kvo_i hv1
  have h51 : npI [(186, 5, 0, 999)] I1 := npI_cg h5 (hA1.1 186 5 rfl).1
  refine sw_0 (pc' := 1322) (L' := lwL m) (st' := []) (M' := tMem B1 I1 J1) xl1321 rfl rfl ?_
  refine sw_0 (pc' := 1323) (L' := lwL m) (st' := [.ref 185]) (M' := tMem B1 I1 J1) xl1322 rfl rfl ?_
  refine sw_0 (pc' := 1324) (L' := lwL m) (st' := [.retAddr 0, .ref 185]) (M' := tMem B1 I1 J1) xl1323 rfl rfl ?_
  refine sw_0 (pc' := 1325) (L' := lwL m) (st' := [.int (Int32.ofNat m), .retAddr 0, .ref 185]) (M' := tMem B1 I1 J1) xl1324 rfl rfl ?_
  refine sw_0 (pc' := 1326) (L' := lwL m) (st' := [.int 1, .int (Int32.ofNat m), .retAddr 0, .ref 185]) (M' := tMem B1 I1 J1) xl1325 rfl rfl ?_
  refine sw_0 (pc' := 1327) (L' := lwL m) (st' := [.int (Int32.ofNat m + 1), .retAddr 0, .ref 185]) (M' := tMem B1 I1 J1) xl1326 rfl rfl ?_
  refine sw_ial xl1327 (show Int32.ofNat m + 1 = Int32.ofNat (m + 1) from oi_add (b := 1)) (by omega) hl ?_
  refine sw_0 (pc' := 1329) (L' := lwL m) (st' := [.retAddr 0, .int (sc.getD (m + 1) 0), .ref 185]) (M' := tMem B1 I1 J1) xl1328 rfl rfl ?_
  refine sw_0 (pc' := 1330) (L' := lwL m) (st' := [.int (Int32.ofNat m), .retAddr 0, .int (sc.getD (m + 1) 0), .ref 185]) (M' := tMem B1 I1 J1) xl1329 rfl rfl ?_
  refine sw_0 (pc' := 1331) (L' := lwL m) (st' := [.int 2, .int (Int32.ofNat m), .retAddr 0, .int (sc.getD (m + 1) 0), .ref 185]) (M' := tMem B1 I1 J1) xl1330 rfl rfl ?_
  refine sw_0 (pc' := 1332) (L' := lwL m) (st' := [.int (Int32.ofNat m + 2), .retAddr 0, .int (sc.getD (m + 1) 0), .ref 185]) (M' := tMem B1 I1 J1) xl1331 rfl rfl ?_
  refine sw_ial xl1332 (show Int32.ofNat m + 2 = Int32.ofNat (m + 2) from oi_add (b := 2)) (by omega) hl ?_
  refine lw_call0 (c := nc163) (as := [.ref 185, .int (sc.getD (m + 1) 0), .int (sc.getD (m + 2) 0)]) (rest := []) (r' := (xt_302, 4, 1)) xl1333 rfl rfl (lw_recv (c := 12) (pB_nok rfl hO1) rfl rfl rfl) rfl rfl rfl nN163 hO1 ⟨_, _, rfl, kv_argr 185, _, _, rfl, kv_arg _, _, _, rfl, kv_arg _, rfl⟩ h51 (fun v2 B2 I2 J2 hO2 hA2 hp2 hv2 => ?_)
  obtain ⟨x2, rfl, -, -⟩ := kvo_i hv2
  have h52 : npI [(186, 5, 0, 999)] I2 := hp2
  have hR1 := R7_ag hA1 (fun _ => ⟨rfl, rfl, rfl, rfl⟩) hR
  have hR2 := R7_ag hA2 (fun _ => ⟨rfl, rfl, rfl, rfl⟩) hR1
  refine sw_0 (pc' := 1337) (L' := lwL m) (st' := []) (M' := tMem B2 I2 J2) xl1336 rfl rfl ?_
  refine sw_0 (pc' := 2214) (L' := lwL m) (st' := []) (M' := tMem B2 I2 J2) xl1337 rfl rfl ?_
  exact hb B2 I2 J2 ⟨hO2, h52, hR2⟩ ⟨hA2.2.2.1.trans hA1.2.2.1, hA2.2.2.2.trans hA1.2.2.2⟩
set_option maxRecDepth 100000 in
theorem lwc32 {sc : List Int32} {B : xM} {I : tI} {J : tJ} {m : Nat} {Q : Option Value → xM → Prop} (hm : m + 6 ≤ sc.length) (hl : sc.length ≤ 3072) (hI : LInv R7 sc B I J) (hb : ∀ B' I' J', LInv R7 sc B' I' J' → kSz B B' → sw sc rLawX 2214 (lwL m) [] (tMem B' I' J') Q) : sw sc rLawX 1340 (lwL m) [] (tMem B I J) Q := by
  obtain ⟨hO, h5, hR⟩ := hI
  refine sw_0 (pc' := 1341) (L' := lwL m) (st' := [.ref 0]) (M' := tMem B I J) xl1340 rfl rfl ?_
  refine sw_0 (pc' := 1342) (L' := lwL m) (st' := [.retAddr 0, .ref 0]) (M' := tMem B I J) xl1341 rfl rfl ?_
  refine sw_0 (pc' := 1343) (L' := lwL m) (st' := [.int (Int32.ofNat m), .retAddr 0, .ref 0]) (M' := tMem B I J) xl1342 rfl rfl ?_
  refine sw_0 (pc' := 1344) (L' := lwL m) (st' := [.int 1, .int (Int32.ofNat m), .retAddr 0, .ref 0]) (M' := tMem B I J) xl1343 rfl rfl ?_
  refine sw_0 (pc' := 1345) (L' := lwL m) (st' := [.int (Int32.ofNat m + 1), .retAddr 0, .ref 0]) (M' := tMem B I J) xl1344 rfl rfl ?_
  refine sw_ial xl1345 (show Int32.ofNat m + 1 = Int32.ofNat (m + 1) from oi_add (b := 1)) (by omega) hl ?_
  refine sw_0 (pc' := 1347) (L' := lwL m) (st' := [.retAddr 0, .int (sc.getD (m + 1) 0), .ref 0]) (M' := tMem B I J) xl1346 rfl rfl ?_
  refine sw_0 (pc' := 1348) (L' := lwL m) (st' := [.int (Int32.ofNat m), .retAddr 0, .int (sc.getD (m + 1) 0), .ref 0]) (M' := tMem B I J) xl1347 rfl rfl ?_
  refine sw_0 (pc' := 1349) (L' := lwL m) (st' := [.int 2, .int (Int32.ofNat m), .retAddr 0, .int (sc.getD (m + 1) 0), .ref 0]) (M' := tMem B I J) xl1348 rfl rfl ?_
  refine sw_0 (pc' := 1350) (L' := lwL m) (st' := [.int (Int32.ofNat m + 2), .retAddr 0, .int (sc.getD (m + 1) 0), .ref 0]) (M' := tMem B I J) xl1349 rfl rfl ?_
  refine sw_ial xl1350 (show Int32.ofNat m + 2 = Int32.ofNat (m + 2) from oi_add (b := 2)) (by omega) hl ?_
  refine sw_0 (pc' := 1352) (L' := lwL m) (st' := [.retAddr 0, .int (sc.getD (m + 2) 0), .int (sc.getD (m + 1) 0), .ref 0]) (M' := tMem B I J) xl1351 rfl rfl ?_
  refine sw_0 (pc' := 1353) (L' := lwL m) (st' := [.int (Int32.ofNat m), .retAddr 0, .int (sc.getD (m + 2) 0), .int (sc.getD (m + 1) 0), .ref 0]) (M' := tMem B I J) xl1352 rfl rfl ?_
  refine sw_0 (pc' := 1354) (L' := lwL m) (st' := [.int 3, .int (Int32.ofNat m), .retAddr 0, .int (sc.getD (m + 2) 0), .int (sc.getD (m + 1) 0), .ref 0]) (M' := tMem B I J) xl1353 rfl rfl ?_
  refine sw_0 (pc' := 1355) (L' := lwL m) (st' := [.int (Int32.ofNat m + 3), .retAddr 0, .int (sc.getD (m + 2) 0), .int (sc.getD (m + 1) 0), .ref 0]) (M' := tMem B I J) xl1354 rfl rfl ?_
  refine sw_ial xl1355 (show Int32.ofNat m + 3 = Int32.ofNat (m + 3) from oi_add (b := 3)) (by omega) hl ?_
  refine lw_call0 (c := nc165) (as := [.ref 0, .int (sc.getD (m + 1) 0), .int (sc.getD (m + 2) 0), .int (sc.getD (m + 3) 0)]) (rest := []) (r' := (xt_168, 4, 1)) xl1356 rfl rfl (lw_recv (c := 11) (pB_nok rfl hO) rfl rfl rfl) rfl rfl rfl nN165 hO ⟨_, _, rfl, kv_argr 0, _, _, rfl, kv_arg _, _, _, rfl, kv_arg _, _, _, rfl, kv_arg _, rfl⟩ (fun q hq => by cases hq) (fun v1 B1 I1 J1 hO1 hA1 hp1 hv1 => ?_)
  obtain ⟨x1, rfl, -, -⟩ := kvo_i hv1
  have h51 : npI [(186, 5, 0, 999)] I1 := npI_cg h5 (hA1.1 186 5 rfl).1
  refine sw_0 (pc' := 1360) (L' := lwL m) (st' := []) (M' := tMem B1 I1 J1) xl1359 rfl rfl ?_
  refine sw_0 (pc' := 1361) (L' := lwL m) (st' := [.ref 185]) (M' := tMem B1 I1 J1) xl1360 rfl rfl ?_
  refine sw_0 (pc' := 1362) (L' := lwL m) (st' := [.retAddr 0, .ref 185]) (M' := tMem B1 I1 J1) xl1361 rfl rfl ?_
  refine sw_0 (pc' := 1363) (L' := lwL m) (st' := [.int (Int32.ofNat m), .retAddr 0, .ref 185]) (M' := tMem B1 I1 J1) xl1362 rfl rfl ?_
  refine sw_0 (pc' := 1364) (L' := lwL m) (st' := [.int 1, .int (Int32.ofNat m), .retAddr 0, .ref 185]) (M' := tMem B1 I1 J1) xl1363 rfl rfl ?_
  refine sw_0 (pc' := 1365) (L' := lwL m) (st' := [.int (Int32.ofNat m + 1), .retAddr 0, .ref 185]) (M' := tMem B1 I1 J1) xl1364 rfl rfl ?_
  refine sw_ial xl1365 (show Int32.ofNat m + 1 = Int32.ofNat (m + 1) from oi_add (b := 1)) (by omega) hl ?_
  refine sw_0 (pc' := 1367) (L' := lwL m) (st' := [.retAddr 0, .int (sc.getD (m + 1) 0), .ref 185]) (M' := tMem B1 I1 J1) xl1366 rfl rfl ?_
  refine sw_0 (pc' := 1368) (L' := lwL m) (st' := [.int (Int32.ofNat m), .retAddr 0, .int (sc.getD (m + 1) 0), .ref 185]) (M' := tMem B1 I1 J1) xl1367 rfl rfl ?_
  refine sw_0 (pc' := 1369) (L' := lwL m) (st' := [.int 2, .int (Int32.ofNat m), .retAddr 0, .int (sc.getD (m + 1) 0), .ref 185]) (M' := tMem B1 I1 J1) xl1368 rfl rfl ?_
  refine sw_0 (pc' := 1370) (L' := lwL m) (st' := [.int (Int32.ofNat m + 2), .retAddr 0, .int (sc.getD (m + 1) 0), .ref 185]) (M' := tMem B1 I1 J1) xl1369 rfl rfl ?_
  refine sw_ial xl1370 (show Int32.ofNat m + 2 = Int32.ofNat (m + 2) from oi_add (b := 2)) (by omega) hl ?_
  refine sw_0 (pc' := 1372) (L' := lwL m) (st' := [.retAddr 0, .int (sc.getD (m + 2) 0), .int (sc.getD (m + 1) 0), .ref 185]) (M' := tMem B1 I1 J1) xl1371 rfl rfl ?_
  refine sw_0 (pc' := 1373) (L' := lwL m) (st' := [.int (Int32.ofNat m), .retAddr 0, .int (sc.getD (m + 2) 0), .int (sc.getD (m + 1) 0), .ref 185]) (M' := tMem B1 I1 J1) xl1372 rfl rfl ?_
  refine sw_0 (pc' := 1374) (L' := lwL m) (st' := [.int 3, .int (Int32.ofNat m), .retAddr 0, .int (sc.getD (m + 2) 0), .int (sc.getD (m + 1) 0), .ref 185]) (M' := tMem B1 I1 J1) xl1373 rfl rfl ?_
  refine sw_0 (pc' := 1375) (L' := lwL m) (st' := [.int (Int32.ofNat m + 3), .retAddr 0, .int (sc.getD (m + 2) 0), .int (sc.getD (m + 1) 0), .ref 185]) (M' := tMem B1 I1 J1) xl1374 rfl rfl ?_
  refine sw_ial xl1375 (show Int32.ofNat m + 3 = Int32.ofNat (m + 3) from oi_add (b := 3)) (by omega) hl ?_
  refine lw_call0 (c := nc166) (as := [.ref 185, .int (sc.getD (m + 1) 0), .int (sc.getD (m + 2) 0), .int (sc.getD (m + 3) 0)]) (rest := []) (r' := (xt_303, 5, 1)) xl1376 rfl rfl (lw_recv (c := 12) (pB_nok rfl hO1) rfl rfl rfl) rfl rfl rfl nN166 hO1 ⟨_, _, rfl, kv_argr 185, _, _, rfl, kv_arg _, _, _, rfl, kv_arg _, _, _, rfl, kv_arg _, rfl⟩ h51 (fun v2 B2 I2 J2 hO2 hA2 hp2 hv2 => ?_)
  obtain ⟨x2, rfl, -, -⟩ := kvo_i hv2
  have h52 : npI [(186, 5, 0, 999)] I2 := hp2
  have hR1 := R7_ag hA1 (fun _ => ⟨rfl, rfl, rfl, rfl⟩) hR
  have hR2 := R7_ag hA2 (fun _ => ⟨rfl, rfl, rfl, rfl⟩) hR1
  refine sw_0 (pc' := 1380) (L' := lwL m) (st' := []) (M' := tMem B2 I2 J2) xl1379 rfl rfl ?_
  refine sw_0 (pc' := 2214) (L' := lwL m) (st' := []) (M' := tMem B2 I2 J2) xl1380 rfl rfl ?_
  exact hb B2 I2 J2 ⟨hO2, h52, hR2⟩ ⟨hA2.2.2.1.trans hA1.2.2.1, hA2.2.2.2.trans hA1.2.2.2⟩
set_option maxRecDepth 100000 in
theorem lwc33 {sc : List Int32} {B : xM} {I : tI} {J : tJ} {m : Nat} {Q : Option Value → xM → Prop} (hm : m + 6 ≤ sc.length) (hl : sc.length ≤ 3072) (hI : LInv R7 sc B I J) (hb : ∀ B' I' J', LInv R7 sc B' I' J' → kSz B B' → sw sc rLawX 2214 (lwL m) [] (tMem B' I' J') Q) : sw sc rLawX 1383 (lwL m) [] (tMem B I J) Q := by
  obtain ⟨hO, h5, hR⟩ := hI
  refine sw_0 (pc' := 1384) (L' := lwL m) (st' := [.ref 0]) (M' := tMem B I J) xl1383 rfl rfl ?_
  refine sw_0 (pc' := 1385) (L' := lwL m) (st' := [.retAddr 0, .ref 0]) (M' := tMem B I J) xl1384 rfl rfl ?_
  refine sw_0 (pc' := 1386) (L' := lwL m) (st' := [.int (Int32.ofNat m), .retAddr 0, .ref 0]) (M' := tMem B I J) xl1385 rfl rfl ?_
  refine sw_0 (pc' := 1387) (L' := lwL m) (st' := [.int 1, .int (Int32.ofNat m), .retAddr 0, .ref 0]) (M' := tMem B I J) xl1386 rfl rfl ?_
  refine sw_0 (pc' := 1388) (L' := lwL m) (st' := [.int (Int32.ofNat m + 1), .retAddr 0, .ref 0]) (M' := tMem B I J) xl1387 rfl rfl ?_
  refine sw_ial xl1388 (show Int32.ofNat m + 1 = Int32.ofNat (m + 1) from oi_add (b := 1)) (by omega) hl ?_
  refine lw_call0 (c := nc169) (as := [.ref 0, .int (sc.getD (m + 1) 0)]) (rest := []) (r' := (xt_169, 2, 1)) xl1389 rfl rfl (lw_recv (c := 11) (pB_nok rfl hO) rfl rfl rfl) rfl rfl rfl nN169 hO ⟨_, _, rfl, kv_argr 0, _, _, rfl, kv_arg _, rfl⟩ (fun q hq => by cases hq) (fun v1 B1 I1 J1 hO1 hA1 hp1 hv1 => ?_)
  obtain ⟨x1, rfl, -, -⟩ := kvo_i hv1
  have h51 : npI [(186, 5, 0, 999)] I1 := npI_cg h5 (hA1.1 186 5 rfl).1
  refine sw_0 (pc' := 1393) (L' := lwL m) (st' := []) (M' := tMem B1 I1 J1) xl1392 rfl rfl ?_
  refine sw_0 (pc' := 1394) (L' := lwL m) (st' := [.ref 185]) (M' := tMem B1 I1 J1) xl1393 rfl rfl ?_
  refine sw_0 (pc' := 1395) (L' := lwL m) (st' := [.retAddr 0, .ref 185]) (M' := tMem B1 I1 J1) xl1394 rfl rfl ?_
  refine sw_0 (pc' := 1396) (L' := lwL m) (st' := [.int (Int32.ofNat m), .retAddr 0, .ref 185]) (M' := tMem B1 I1 J1) xl1395 rfl rfl ?_
  refine sw_0 (pc' := 1397) (L' := lwL m) (st' := [.int 1, .int (Int32.ofNat m), .retAddr 0, .ref 185]) (M' := tMem B1 I1 J1) xl1396 rfl rfl ?_
  refine sw_0 (pc' := 1398) (L' := lwL m) (st' := [.int (Int32.ofNat m + 1), .retAddr 0, .ref 185]) (M' := tMem B1 I1 J1) xl1397 rfl rfl ?_
  refine sw_ial xl1398 (show Int32.ofNat m + 1 = Int32.ofNat (m + 1) from oi_add (b := 1)) (by omega) hl ?_
  refine lw_call0 (c := nc170) (as := [.ref 185, .int (sc.getD (m + 1) 0)]) (rest := []) (r' := (xt_304, 3, 1)) xl1399 rfl rfl (lw_recv (c := 12) (pB_nok rfl hO1) rfl rfl rfl) rfl rfl rfl nN170 hO1 ⟨_, _, rfl, kv_argr 185, _, _, rfl, kv_arg _, rfl⟩ h51 (fun v2 B2 I2 J2 hO2 hA2 hp2 hv2 => ?_)
  obtain ⟨x2, rfl, -, -⟩ := kvo_i hv2
  have h52 : npI [(186, 5, 0, 999)] I2 := hp2
  have hR1 := R7_ag hA1 (fun _ => ⟨rfl, rfl, rfl, rfl⟩) hR
  have hR2 := R7_ag hA2 (fun _ => ⟨rfl, rfl, rfl, rfl⟩) hR1
  refine sw_0 (pc' := 1403) (L' := lwL m) (st' := []) (M' := tMem B2 I2 J2) xl1402 rfl rfl ?_
  refine sw_0 (pc' := 2214) (L' := lwL m) (st' := []) (M' := tMem B2 I2 J2) xl1403 rfl rfl ?_
  exact hb B2 I2 J2 ⟨hO2, h52, hR2⟩ ⟨hA2.2.2.1.trans hA1.2.2.1, hA2.2.2.2.trans hA1.2.2.2⟩
set_option maxRecDepth 100000 in
theorem lwc34 {sc : List Int32} {B : xM} {I : tI} {J : tJ} {m : Nat} {Q : Option Value → xM → Prop} (hm : m + 6 ≤ sc.length) (hl : sc.length ≤ 3072) (hI : LInv R7 sc B I J) (hb : ∀ B' I' J', LInv R7 sc B' I' J' → kSz B B' → sw sc rLawX 2214 (lwL m) [] (tMem B' I' J') Q) : sw sc rLawX 1406 (lwL m) [] (tMem B I J) Q := by
  obtain ⟨hO, h5, hR⟩ := hI
  refine sw_0 (pc' := 1407) (L' := lwL m) (st' := [.ref 0]) (M' := tMem B I J) xl1406 rfl rfl ?_
  refine sw_0 (pc' := 1408) (L' := lwL m) (st' := [.retAddr 0, .ref 0]) (M' := tMem B I J) xl1407 rfl rfl ?_
  refine sw_0 (pc' := 1409) (L' := lwL m) (st' := [.int (Int32.ofNat m), .retAddr 0, .ref 0]) (M' := tMem B I J) xl1408 rfl rfl ?_
  refine sw_0 (pc' := 1410) (L' := lwL m) (st' := [.int 1, .int (Int32.ofNat m), .retAddr 0, .ref 0]) (M' := tMem B I J) xl1409 rfl rfl ?_
  refine sw_0 (pc' := 1411) (L' := lwL m) (st' := [.int (Int32.ofNat m + 1), .retAddr 0, .ref 0]) (M' := tMem B I J) xl1410 rfl rfl ?_
  refine sw_ial xl1411 (show Int32.ofNat m + 1 = Int32.ofNat (m + 1) from oi_add (b := 1)) (by omega) hl ?_
  refine lw_call0 (c := nc172) (as := [.ref 0, .int (sc.getD (m + 1) 0)]) (rest := []) (r' := (xt_170, 2, 1)) xl1412 rfl rfl (lw_recv (c := 11) (pB_nok rfl hO) rfl rfl rfl) rfl rfl rfl nN172 hO ⟨_, _, rfl, kv_argr 0, _, _, rfl, kv_arg _, rfl⟩ (fun q hq => by cases hq) (fun v1 B1 I1 J1 hO1 hA1 hp1 hv1 => ?_)
  obtain ⟨x1, rfl, -, -⟩ := kvo_i hv1
  have h51 : npI [(186, 5, 0, 999)] I1 := npI_cg h5 (hA1.1 186 5 rfl).1
  refine sw_0 (pc' := 1416) (L' := lwL m) (st' := []) (M' := tMem B1 I1 J1) xl1415 rfl rfl ?_
  refine sw_0 (pc' := 1417) (L' := lwL m) (st' := [.ref 185]) (M' := tMem B1 I1 J1) xl1416 rfl rfl ?_
  refine sw_0 (pc' := 1418) (L' := lwL m) (st' := [.retAddr 0, .ref 185]) (M' := tMem B1 I1 J1) xl1417 rfl rfl ?_
  refine sw_0 (pc' := 1419) (L' := lwL m) (st' := [.int (Int32.ofNat m), .retAddr 0, .ref 185]) (M' := tMem B1 I1 J1) xl1418 rfl rfl ?_
  refine sw_0 (pc' := 1420) (L' := lwL m) (st' := [.int 1, .int (Int32.ofNat m), .retAddr 0, .ref 185]) (M' := tMem B1 I1 J1) xl1419 rfl rfl ?_
  refine sw_0 (pc' := 1421) (L' := lwL m) (st' := [.int (Int32.ofNat m + 1), .retAddr 0, .ref 185]) (M' := tMem B1 I1 J1) xl1420 rfl rfl ?_
  refine sw_ial xl1421 (show Int32.ofNat m + 1 = Int32.ofNat (m + 1) from oi_add (b := 1)) (by omega) hl ?_
  refine lw_call0 (c := nc175) (as := [.ref 185, .int (sc.getD (m + 1) 0)]) (rest := []) (r' := (xt_307, 2, 1)) xl1422 rfl rfl (lw_recv (c := 12) (pB_nok rfl hO1) rfl rfl rfl) rfl rfl rfl nN175 hO1 ⟨_, _, rfl, kv_argr 185, _, _, rfl, kv_arg _, rfl⟩ h51 (fun v2 B2 I2 J2 hO2 hA2 hp2 hv2 => ?_)
  obtain ⟨x2, rfl, -, -⟩ := kvo_i hv2
  have h52 : npI [(186, 5, 0, 999)] I2 := hp2
  have hR1 := R7_ag hA1 (fun _ => ⟨rfl, rfl, rfl, rfl⟩) hR
  have hR2 := R7_ag hA2 (fun _ => ⟨rfl, rfl, rfl, rfl⟩) hR1
  refine sw_0 (pc' := 1426) (L' := lwL m) (st' := []) (M' := tMem B2 I2 J2) xl1425 rfl rfl ?_
  refine sw_0 (pc' := 2214) (L' := lwL m) (st' := []) (M' := tMem B2 I2 J2) xl1426 rfl rfl ?_
  exact hb B2 I2 J2 ⟨hO2, h52, hR2⟩ ⟨hA2.2.2.1.trans hA1.2.2.1, hA2.2.2.2.trans hA1.2.2.2⟩
set_option maxRecDepth 100000 in
theorem lwc35 {sc : List Int32} {B : xM} {I : tI} {J : tJ} {m : Nat} {Q : Option Value → xM → Prop} (hm : m + 6 ≤ sc.length) (hl : sc.length ≤ 3072) (hI : LInv R7 sc B I J) (hb : ∀ B' I' J', LInv R7 sc B' I' J' → kSz B B' → sw sc rLawX 2214 (lwL m) [] (tMem B' I' J') Q) : sw sc rLawX 1429 (lwL m) [] (tMem B I J) Q := by
  obtain ⟨hO, h5, hR⟩ := hI
  refine sw_0 (pc' := 1430) (L' := lwL m) (st' := [.ref 0]) (M' := tMem B I J) xl1429 rfl rfl ?_
  refine sw_0 (pc' := 1431) (L' := lwL m) (st' := [.retAddr 0, .ref 0]) (M' := tMem B I J) xl1430 rfl rfl ?_
  refine sw_0 (pc' := 1432) (L' := lwL m) (st' := [.int (Int32.ofNat m), .retAddr 0, .ref 0]) (M' := tMem B I J) xl1431 rfl rfl ?_
  refine sw_0 (pc' := 1433) (L' := lwL m) (st' := [.int 1, .int (Int32.ofNat m), .retAddr 0, .ref 0]) (M' := tMem B I J) xl1432 rfl rfl ?_
  refine sw_0 (pc' := 1434) (L' := lwL m) (st' := [.int (Int32.ofNat m + 1), .retAddr 0, .ref 0]) (M' := tMem B I J) xl1433 rfl rfl ?_
  refine sw_ial xl1434 (show Int32.ofNat m + 1 = Int32.ofNat (m + 1) from oi_add (b := 1)) (by omega) hl ?_
  refine lw_call0 (c := nc176) (as := [.ref 0, .int (sc.getD (m + 1) 0)]) (rest := []) (r' := (xt_171, 3, 1)) xl1435 rfl rfl (lw_recv (c := 11) (pB_nok rfl hO) rfl rfl rfl) rfl rfl rfl nN176 hO ⟨_, _, rfl, kv_argr 0, _, _, rfl, kv_arg _, rfl⟩ (fun q hq => by cases hq) (fun v1 B1 I1 J1 hO1 hA1 hp1 hv1 => ?_)
  obtain ⟨x1, rfl, -, -⟩ := kvo_i hv1
  have h51 : npI [(186, 5, 0, 999)] I1 := npI_cg h5 (hA1.1 186 5 rfl).1
  refine sw_0 (pc' := 1439) (L' := lwL m) (st' := []) (M' := tMem B1 I1 J1) xl1438 rfl rfl ?_
  refine sw_0 (pc' := 1440) (L' := lwL m) (st' := [.ref 185]) (M' := tMem B1 I1 J1) xl1439 rfl rfl ?_
  refine sw_0 (pc' := 1441) (L' := lwL m) (st' := [.retAddr 0, .ref 185]) (M' := tMem B1 I1 J1) xl1440 rfl rfl ?_
  refine sw_0 (pc' := 1442) (L' := lwL m) (st' := [.int (Int32.ofNat m), .retAddr 0, .ref 185]) (M' := tMem B1 I1 J1) xl1441 rfl rfl ?_
  refine sw_0 (pc' := 1443) (L' := lwL m) (st' := [.int 1, .int (Int32.ofNat m), .retAddr 0, .ref 185]) (M' := tMem B1 I1 J1) xl1442 rfl rfl ?_
  refine sw_0 (pc' := 1444) (L' := lwL m) (st' := [.int (Int32.ofNat m + 1), .retAddr 0, .ref 185]) (M' := tMem B1 I1 J1) xl1443 rfl rfl ?_
  refine sw_ial xl1444 (show Int32.ofNat m + 1 = Int32.ofNat (m + 1) from oi_add (b := 1)) (by omega) hl ?_
  refine lw_call0 (c := nc177) (as := [.ref 185, .int (sc.getD (m + 1) 0)]) (rest := []) (r' := (xt_308, 3, 1)) xl1445 rfl rfl (lw_recv (c := 12) (pB_nok rfl hO1) rfl rfl rfl) rfl rfl rfl nN177 hO1 ⟨_, _, rfl, kv_argr 185, _, _, rfl, kv_arg _, rfl⟩ h51 (fun v2 B2 I2 J2 hO2 hA2 hp2 hv2 => ?_)
  obtain ⟨x2, rfl, -, -⟩ := kvo_i hv2
  have h52 : npI [(186, 5, 0, 999)] I2 := hp2
  have hR1 := R7_ag hA1 (fun _ => ⟨rfl, rfl, rfl, rfl⟩) hR
  have hR2 := R7_ag hA2 (fun _ => ⟨rfl, rfl, rfl, rfl⟩) hR1
  refine sw_0 (pc' := 1449) (L' := lwL m) (st' := []) (M' := tMem B2 I2 J2) xl1448 rfl rfl ?_
  refine sw_0 (pc' := 2214) (L' := lwL m) (st' := []) (M' := tMem B2 I2 J2) xl1449 rfl rfl ?_
  exact hb B2 I2 J2 ⟨hO2, h52, hR2⟩ ⟨hA2.2.2.1.trans hA1.2.2.1, hA2.2.2.2.trans hA1.2.2.2⟩
set_option maxRecDepth 100000 in
theorem lwc36 {sc : List Int32} {B : xM} {I : tI} {J : tJ} {m : Nat} {Q : Option Value → xM → Prop} (hm : m + 6 ≤ sc.length) (hl : sc.length ≤ 3072) (hI : LInv R7 sc B I J) (hb : ∀ B' I' J', LInv R7 sc B' I' J' → kSz B B' → sw sc rLawX 2214 (lwL m) [] (tMem B' I' J') Q) : sw sc rLawX 1452 (lwL m) [] (tMem B I J) Q := by
  obtain ⟨hO, h5, hR⟩ := hI
  refine sw_0 (pc' := 1453) (L' := lwL m) (st' := [.ref 0]) (M' := tMem B I J) xl1452 rfl rfl ?_
  refine sw_0 (pc' := 1454) (L' := lwL m) (st' := [.retAddr 0, .ref 0]) (M' := tMem B I J) xl1453 rfl rfl ?_
  refine sw_0 (pc' := 1455) (L' := lwL m) (st' := [.int (Int32.ofNat m), .retAddr 0, .ref 0]) (M' := tMem B I J) xl1454 rfl rfl ?_
  refine sw_0 (pc' := 1456) (L' := lwL m) (st' := [.int 1, .int (Int32.ofNat m), .retAddr 0, .ref 0]) (M' := tMem B I J) xl1455 rfl rfl ?_
  refine sw_0 (pc' := 1457) (L' := lwL m) (st' := [.int (Int32.ofNat m + 1), .retAddr 0, .ref 0]) (M' := tMem B I J) xl1456 rfl rfl ?_
  refine sw_ial xl1457 (show Int32.ofNat m + 1 = Int32.ofNat (m + 1) from oi_add (b := 1)) (by omega) hl ?_
  refine sw_0 (pc' := 1459) (L' := lwL m) (st' := [.retAddr 0, .int (sc.getD (m + 1) 0), .ref 0]) (M' := tMem B I J) xl1458 rfl rfl ?_
  refine sw_0 (pc' := 1460) (L' := lwL m) (st' := [.int (Int32.ofNat m), .retAddr 0, .int (sc.getD (m + 1) 0), .ref 0]) (M' := tMem B I J) xl1459 rfl rfl ?_
  refine sw_0 (pc' := 1461) (L' := lwL m) (st' := [.int 2, .int (Int32.ofNat m), .retAddr 0, .int (sc.getD (m + 1) 0), .ref 0]) (M' := tMem B I J) xl1460 rfl rfl ?_
  refine sw_0 (pc' := 1462) (L' := lwL m) (st' := [.int (Int32.ofNat m + 2), .retAddr 0, .int (sc.getD (m + 1) 0), .ref 0]) (M' := tMem B I J) xl1461 rfl rfl ?_
  refine sw_ial xl1462 (show Int32.ofNat m + 2 = Int32.ofNat (m + 2) from oi_add (b := 2)) (by omega) hl ?_
  refine lw_call0 (c := nc179) (as := [.ref 0, .int (sc.getD (m + 1) 0), .int (sc.getD (m + 2) 0)]) (rest := []) (r' := (xt_172, 5, 1)) xl1463 rfl rfl (lw_recv (c := 11) (pB_nok rfl hO) rfl rfl rfl) rfl rfl rfl nN179 hO ⟨_, _, rfl, kv_argr 0, _, _, rfl, kv_arg _, _, _, rfl, kv_arg _, rfl⟩ (fun q hq => by cases hq) (fun v1 B1 I1 J1 hO1 hA1 hp1 hv1 => ?_)
  obtain ⟨x1, rfl, -, -⟩ := kvo_i hv1
  have h51 : npI [(186, 5, 0, 999)] I1 := npI_cg h5 (hA1.1 186 5 rfl).1
  refine sw_0 (pc' := 1467) (L' := lwL m) (st' := []) (M' := tMem B1 I1 J1) xl1466 rfl rfl ?_
  refine sw_0 (pc' := 1468) (L' := lwL m) (st' := [.ref 185]) (M' := tMem B1 I1 J1) xl1467 rfl rfl ?_
  refine sw_0 (pc' := 1469) (L' := lwL m) (st' := [.retAddr 0, .ref 185]) (M' := tMem B1 I1 J1) xl1468 rfl rfl ?_
  refine sw_0 (pc' := 1470) (L' := lwL m) (st' := [.int (Int32.ofNat m), .retAddr 0, .ref 185]) (M' := tMem B1 I1 J1) xl1469 rfl rfl ?_
  refine sw_0 (pc' := 1471) (L' := lwL m) (st' := [.int 1, .int (Int32.ofNat m), .retAddr 0, .ref 185]) (M' := tMem B1 I1 J1) xl1470 rfl rfl ?_
  refine sw_0 (pc' := 1472) (L' := lwL m) (st' := [.int (Int32.ofNat m + 1), .retAddr 0, .ref 185]) (M' := tMem B1 I1 J1) xl1471 rfl rfl ?_
  refine sw_ial xl1472 (show Int32.ofNat m + 1 = Int32.ofNat (m + 1) from oi_add (b := 1)) (by omega) hl ?_
  refine sw_0 (pc' := 1474) (L' := lwL m) (st' := [.retAddr 0, .int (sc.getD (m + 1) 0), .ref 185]) (M' := tMem B1 I1 J1) xl1473 rfl rfl ?_
  refine sw_0 (pc' := 1475) (L' := lwL m) (st' := [.int (Int32.ofNat m), .retAddr 0, .int (sc.getD (m + 1) 0), .ref 185]) (M' := tMem B1 I1 J1) xl1474 rfl rfl ?_
  refine sw_0 (pc' := 1476) (L' := lwL m) (st' := [.int 2, .int (Int32.ofNat m), .retAddr 0, .int (sc.getD (m + 1) 0), .ref 185]) (M' := tMem B1 I1 J1) xl1475 rfl rfl ?_
  refine sw_0 (pc' := 1477) (L' := lwL m) (st' := [.int (Int32.ofNat m + 2), .retAddr 0, .int (sc.getD (m + 1) 0), .ref 185]) (M' := tMem B1 I1 J1) xl1476 rfl rfl ?_
  refine sw_ial xl1477 (show Int32.ofNat m + 2 = Int32.ofNat (m + 2) from oi_add (b := 2)) (by omega) hl ?_
  refine lw_call0 (c := nc180) (as := [.ref 185, .int (sc.getD (m + 1) 0), .int (sc.getD (m + 2) 0)]) (rest := []) (r' := (xt_309, 5, 1)) xl1478 rfl rfl (lw_recv (c := 12) (pB_nok rfl hO1) rfl rfl rfl) rfl rfl rfl nN180 hO1 ⟨_, _, rfl, kv_argr 185, _, _, rfl, kv_arg _, _, _, rfl, kv_arg _, rfl⟩ h51 (fun v2 B2 I2 J2 hO2 hA2 hp2 hv2 => ?_)
  obtain ⟨x2, rfl, -, -⟩ := kvo_i hv2
  have h52 : npI [(186, 5, 0, 999)] I2 := hp2
  have hR1 := R7_ag hA1 (fun _ => ⟨rfl, rfl, rfl, rfl⟩) hR
  have hR2 := R7_ag hA2 (fun _ => ⟨rfl, rfl, rfl, rfl⟩) hR1
  refine sw_0 (pc' := 1482) (L' := lwL m) (st' := []) (M' := tMem B2 I2 J2) xl1481 rfl rfl ?_
  refine sw_0 (pc' := 2214) (L' := lwL m) (st' := []) (M' := tMem B2 I2 J2) xl1482 rfl rfl ?_
  exact hb B2 I2 J2 ⟨hO2, h52, hR2⟩ ⟨hA2.2.2.1.trans hA1.2.2.1, hA2.2.2.2.trans hA1.2.2.2⟩
set_option maxRecDepth 100000 in
theorem lwc37 {sc : List Int32} {B : xM} {I : tI} {J : tJ} {m : Nat} {Q : Option Value → xM → Prop} (hm : m + 6 ≤ sc.length) (hl : sc.length ≤ 3072) (hI : LInv R7 sc B I J) (hb : ∀ B' I' J', LInv R7 sc B' I' J' → kSz B B' → sw sc rLawX 2214 (lwL m) [] (tMem B' I' J') Q) : sw sc rLawX 1485 (lwL m) [] (tMem B I J) Q := by
  obtain ⟨hO, h5, hR⟩ := hI
  refine sw_0 (pc' := 1486) (L' := lwL m) (st' := [.ref 0]) (M' := tMem B I J) xl1485 rfl rfl ?_
  refine sw_0 (pc' := 1487) (L' := lwL m) (st' := [.retAddr 0, .ref 0]) (M' := tMem B I J) xl1486 rfl rfl ?_
  refine sw_0 (pc' := 1488) (L' := lwL m) (st' := [.int (Int32.ofNat m), .retAddr 0, .ref 0]) (M' := tMem B I J) xl1487 rfl rfl ?_
  refine sw_0 (pc' := 1489) (L' := lwL m) (st' := [.int 1, .int (Int32.ofNat m), .retAddr 0, .ref 0]) (M' := tMem B I J) xl1488 rfl rfl ?_
  refine sw_0 (pc' := 1490) (L' := lwL m) (st' := [.int (Int32.ofNat m + 1), .retAddr 0, .ref 0]) (M' := tMem B I J) xl1489 rfl rfl ?_
  refine sw_ial xl1490 (show Int32.ofNat m + 1 = Int32.ofNat (m + 1) from oi_add (b := 1)) (by omega) hl ?_
  refine sw_0 (pc' := 1492) (L' := lwL m) (st' := [.retAddr 0, .int (sc.getD (m + 1) 0), .ref 0]) (M' := tMem B I J) xl1491 rfl rfl ?_
  refine sw_0 (pc' := 1493) (L' := lwL m) (st' := [.int (Int32.ofNat m), .retAddr 0, .int (sc.getD (m + 1) 0), .ref 0]) (M' := tMem B I J) xl1492 rfl rfl ?_
  refine sw_0 (pc' := 1494) (L' := lwL m) (st' := [.int 2, .int (Int32.ofNat m), .retAddr 0, .int (sc.getD (m + 1) 0), .ref 0]) (M' := tMem B I J) xl1493 rfl rfl ?_
  refine sw_0 (pc' := 1495) (L' := lwL m) (st' := [.int (Int32.ofNat m + 2), .retAddr 0, .int (sc.getD (m + 1) 0), .ref 0]) (M' := tMem B I J) xl1494 rfl rfl ?_
  refine sw_ial xl1495 (show Int32.ofNat m + 2 = Int32.ofNat (m + 2) from oi_add (b := 2)) (by omega) hl ?_
  refine lw_call0 (c := nc181) (as := [.ref 0, .int (sc.getD (m + 1) 0), .int (sc.getD (m + 2) 0)]) (rest := []) (r' := (xt_173, 6, 1)) xl1496 rfl rfl (lw_recv (c := 11) (pB_nok rfl hO) rfl rfl rfl) rfl rfl rfl nN181 hO ⟨_, _, rfl, kv_argr 0, _, _, rfl, kv_arg _, _, _, rfl, kv_arg _, rfl⟩ (fun q hq => by cases hq) (fun v1 B1 I1 J1 hO1 hA1 hp1 hv1 => ?_)
  obtain ⟨x1, rfl, -, -⟩ := kvo_i hv1
  have h51 : npI [(186, 5, 0, 999)] I1 := npI_cg h5 (hA1.1 186 5 rfl).1
  refine sw_0 (pc' := 1500) (L' := lwL m) (st' := []) (M' := tMem B1 I1 J1) xl1499 rfl rfl ?_
  refine sw_0 (pc' := 1501) (L' := lwL m) (st' := [.ref 185]) (M' := tMem B1 I1 J1) xl1500 rfl rfl ?_
  refine sw_0 (pc' := 1502) (L' := lwL m) (st' := [.retAddr 0, .ref 185]) (M' := tMem B1 I1 J1) xl1501 rfl rfl ?_
  refine sw_0 (pc' := 1503) (L' := lwL m) (st' := [.int (Int32.ofNat m), .retAddr 0, .ref 185]) (M' := tMem B1 I1 J1) xl1502 rfl rfl ?_
  refine sw_0 (pc' := 1504) (L' := lwL m) (st' := [.int 1, .int (Int32.ofNat m), .retAddr 0, .ref 185]) (M' := tMem B1 I1 J1) xl1503 rfl rfl ?_
  refine sw_0 (pc' := 1505) (L' := lwL m) (st' := [.int (Int32.ofNat m + 1), .retAddr 0, .ref 185]) (M' := tMem B1 I1 J1) xl1504 rfl rfl ?_
  refine sw_ial xl1505 (show Int32.ofNat m + 1 = Int32.ofNat (m + 1) from oi_add (b := 1)) (by omega) hl ?_
  refine sw_0 (pc' := 1507) (L' := lwL m) (st' := [.retAddr 0, .int (sc.getD (m + 1) 0), .ref 185]) (M' := tMem B1 I1 J1) xl1506 rfl rfl ?_
  refine sw_0 (pc' := 1508) (L' := lwL m) (st' := [.int (Int32.ofNat m), .retAddr 0, .int (sc.getD (m + 1) 0), .ref 185]) (M' := tMem B1 I1 J1) xl1507 rfl rfl ?_
  refine sw_0 (pc' := 1509) (L' := lwL m) (st' := [.int 2, .int (Int32.ofNat m), .retAddr 0, .int (sc.getD (m + 1) 0), .ref 185]) (M' := tMem B1 I1 J1) xl1508 rfl rfl ?_
  refine sw_0 (pc' := 1510) (L' := lwL m) (st' := [.int (Int32.ofNat m + 2), .retAddr 0, .int (sc.getD (m + 1) 0), .ref 185]) (M' := tMem B1 I1 J1) xl1509 rfl rfl ?_
  refine sw_ial xl1510 (show Int32.ofNat m + 2 = Int32.ofNat (m + 2) from oi_add (b := 2)) (by omega) hl ?_
  refine lw_call0 (c := nc182) (as := [.ref 185, .int (sc.getD (m + 1) 0), .int (sc.getD (m + 2) 0)]) (rest := []) (r' := (xt_310, 6, 1)) xl1511 rfl rfl (lw_recv (c := 12) (pB_nok rfl hO1) rfl rfl rfl) rfl rfl rfl nN182 hO1 ⟨_, _, rfl, kv_argr 185, _, _, rfl, kv_arg _, _, _, rfl, kv_arg _, rfl⟩ h51 (fun v2 B2 I2 J2 hO2 hA2 hp2 hv2 => ?_)
  obtain ⟨x2, rfl, -, -⟩ := kvo_i hv2
  have h52 : npI [(186, 5, 0, 999)] I2 := hp2
  have hR1 := R7_ag hA1 (fun _ => ⟨rfl, rfl, rfl, rfl⟩) hR
  have hR2 := R7_ag hA2 (fun _ => ⟨rfl, rfl, rfl, rfl⟩) hR1
  refine sw_0 (pc' := 1515) (L' := lwL m) (st' := []) (M' := tMem B2 I2 J2) xl1514 rfl rfl ?_
  refine sw_0 (pc' := 2214) (L' := lwL m) (st' := []) (M' := tMem B2 I2 J2) xl1515 rfl rfl ?_
  exact hb B2 I2 J2 ⟨hO2, h52, hR2⟩ ⟨hA2.2.2.1.trans hA1.2.2.1, hA2.2.2.2.trans hA1.2.2.2⟩
set_option maxRecDepth 100000 in
theorem lwc38 {sc : List Int32} {B : xM} {I : tI} {J : tJ} {m : Nat} {Q : Option Value → xM → Prop} (hm : m + 6 ≤ sc.length) (hl : sc.length ≤ 3072) (hI : LInv R7 sc B I J) (hb : ∀ B' I' J', LInv R7 sc B' I' J' → kSz B B' → sw sc rLawX 2214 (lwL m) [] (tMem B' I' J') Q) : sw sc rLawX 1518 (lwL m) [] (tMem B I J) Q := by
  obtain ⟨hO, h5, hR⟩ := hI
  refine sw_0 (pc' := 1519) (L' := lwL m) (st' := [.ref 0]) (M' := tMem B I J) xl1518 rfl rfl ?_
  refine sw_0 (pc' := 1520) (L' := lwL m) (st' := [.retAddr 0, .ref 0]) (M' := tMem B I J) xl1519 rfl rfl ?_
  refine sw_0 (pc' := 1521) (L' := lwL m) (st' := [.int (Int32.ofNat m), .retAddr 0, .ref 0]) (M' := tMem B I J) xl1520 rfl rfl ?_
  refine sw_0 (pc' := 1522) (L' := lwL m) (st' := [.int 1, .int (Int32.ofNat m), .retAddr 0, .ref 0]) (M' := tMem B I J) xl1521 rfl rfl ?_
  refine sw_0 (pc' := 1523) (L' := lwL m) (st' := [.int (Int32.ofNat m + 1), .retAddr 0, .ref 0]) (M' := tMem B I J) xl1522 rfl rfl ?_
  refine sw_ial xl1523 (show Int32.ofNat m + 1 = Int32.ofNat (m + 1) from oi_add (b := 1)) (by omega) hl ?_
  refine lw_call0 (c := nc184) (as := [.ref 0, .int (sc.getD (m + 1) 0)]) (rest := []) (r' := (xt_174, 3, 1)) xl1524 rfl rfl (lw_recv (c := 11) (pB_nok rfl hO) rfl rfl rfl) rfl rfl rfl nN184 hO ⟨_, _, rfl, kv_argr 0, _, _, rfl, kv_arg _, rfl⟩ (fun q hq => by cases hq) (fun v1 B1 I1 J1 hO1 hA1 hp1 hv1 => ?_)
  obtain ⟨x1, rfl, -, -⟩ := kvo_i hv1
  have h51 : npI [(186, 5, 0, 999)] I1 := npI_cg h5 (hA1.1 186 5 rfl).1
  refine sw_0 (pc' := 1528) (L' := lwL m) (st' := []) (M' := tMem B1 I1 J1) xl1527 rfl rfl ?_
  refine sw_0 (pc' := 1529) (L' := lwL m) (st' := [.ref 185]) (M' := tMem B1 I1 J1) xl1528 rfl rfl ?_
  refine sw_0 (pc' := 1530) (L' := lwL m) (st' := [.retAddr 0, .ref 185]) (M' := tMem B1 I1 J1) xl1529 rfl rfl ?_
  refine sw_0 (pc' := 1531) (L' := lwL m) (st' := [.int (Int32.ofNat m), .retAddr 0, .ref 185]) (M' := tMem B1 I1 J1) xl1530 rfl rfl ?_
  refine sw_0 (pc' := 1532) (L' := lwL m) (st' := [.int 1, .int (Int32.ofNat m), .retAddr 0, .ref 185]) (M' := tMem B1 I1 J1) xl1531 rfl rfl ?_
  refine sw_0 (pc' := 1533) (L' := lwL m) (st' := [.int (Int32.ofNat m + 1), .retAddr 0, .ref 185]) (M' := tMem B1 I1 J1) xl1532 rfl rfl ?_
  refine sw_ial xl1533 (show Int32.ofNat m + 1 = Int32.ofNat (m + 1) from oi_add (b := 1)) (by omega) hl ?_
  refine lw_call0 (c := nc185) (as := [.ref 185, .int (sc.getD (m + 1) 0)]) (rest := []) (r' := (xt_311, 4, 1)) xl1534 rfl rfl (lw_recv (c := 12) (pB_nok rfl hO1) rfl rfl rfl) rfl rfl rfl nN185 hO1 ⟨_, _, rfl, kv_argr 185, _, _, rfl, kv_arg _, rfl⟩ h51 (fun v2 B2 I2 J2 hO2 hA2 hp2 hv2 => ?_)
  obtain ⟨x2, rfl, -, -⟩ := kvo_i hv2
  have h52 : npI [(186, 5, 0, 999)] I2 := hp2
  have hR1 := R7_ag hA1 (fun _ => ⟨rfl, rfl, rfl, rfl⟩) hR
  have hR2 := R7_ag hA2 (fun _ => ⟨rfl, rfl, rfl, rfl⟩) hR1
  refine sw_0 (pc' := 1538) (L' := lwL m) (st' := []) (M' := tMem B2 I2 J2) xl1537 rfl rfl ?_
  refine sw_0 (pc' := 2214) (L' := lwL m) (st' := []) (M' := tMem B2 I2 J2) xl1538 rfl rfl ?_
  exact hb B2 I2 J2 ⟨hO2, h52, hR2⟩ ⟨hA2.2.2.1.trans hA1.2.2.1, hA2.2.2.2.trans hA1.2.2.2⟩
set_option maxRecDepth 100000 in
theorem lwc39 {sc : List Int32} {B : xM} {I : tI} {J : tJ} {m : Nat} {Q : Option Value → xM → Prop} (hm : m + 6 ≤ sc.length) (hl : sc.length ≤ 3072) (hI : LInv R7 sc B I J) (hb : ∀ B' I' J', LInv R7 sc B' I' J' → kSz B B' → sw sc rLawX 2214 (lwL m) [] (tMem B' I' J') Q) : sw sc rLawX 1541 (lwL m) [] (tMem B I J) Q := by
  obtain ⟨hO, h5, hR⟩ := hI
  refine sw_0 (pc' := 1542) (L' := lwL m) (st' := [.ref 0]) (M' := tMem B I J) xl1541 rfl rfl ?_
  refine lw_call0 (c := nc187) (as := [.ref 0]) (rest := []) (r' := (xt_175, 2, 1)) xl1542 rfl rfl (lw_recv (c := 11) (pB_nok rfl hO) rfl rfl rfl) rfl rfl rfl nN187 hO ⟨_, _, rfl, kv_argr 0, rfl⟩ (fun q hq => by cases hq) (fun v1 B1 I1 J1 hO1 hA1 hp1 hv1 => ?_)
  obtain ⟨x1, rfl, -, -⟩ := kvo_i hv1
  have h51 : npI [(186, 5, 0, 999)] I1 := npI_cg h5 (hA1.1 186 5 rfl).1
  refine sw_0 (pc' := 1546) (L' := lwL m) (st' := []) (M' := tMem B1 I1 J1) xl1545 rfl rfl ?_
  refine sw_0 (pc' := 1547) (L' := lwL m) (st' := [.ref 185]) (M' := tMem B1 I1 J1) xl1546 rfl rfl ?_
  refine lw_call0 (c := nc189) (as := [.ref 185]) (rest := []) (r' := (xt_313, 3, 1)) xl1547 rfl rfl (lw_recv (c := 12) (pB_nok rfl hO1) rfl rfl rfl) rfl rfl rfl nN189 hO1 ⟨_, _, rfl, kv_argr 185, rfl⟩ h51 (fun v2 B2 I2 J2 hO2 hA2 hp2 hv2 => ?_)
  obtain ⟨x2, rfl, -, -⟩ := kvo_i hv2
  have h52 : npI [(186, 5, 0, 999)] I2 := hp2
  have hR1 := R7_ag hA1 (fun _ => ⟨rfl, rfl, rfl, rfl⟩) hR
  have hR2 := R7_ag hA2 (fun _ => ⟨rfl, rfl, rfl, rfl⟩) hR1
  refine sw_0 (pc' := 1551) (L' := lwL m) (st' := []) (M' := tMem B2 I2 J2) xl1550 rfl rfl ?_
  refine sw_0 (pc' := 2214) (L' := lwL m) (st' := []) (M' := tMem B2 I2 J2) xl1551 rfl rfl ?_
  exact hb B2 I2 J2 ⟨hO2, h52, hR2⟩ ⟨hA2.2.2.1.trans hA1.2.2.1, hA2.2.2.2.trans hA1.2.2.2⟩
set_option maxRecDepth 100000 in
theorem lwc40 {sc : List Int32} {B : xM} {I : tI} {J : tJ} {m : Nat} {Q : Option Value → xM → Prop} (hm : m + 6 ≤ sc.length) (hl : sc.length ≤ 3072) (hI : LInv R7 sc B I J) (hb : ∀ B' I' J', LInv R7 sc B' I' J' → kSz B B' → sw sc rLawX 2214 (lwL m) [] (tMem B' I' J') Q) : sw sc rLawX 1554 (lwL m) [] (tMem B I J) Q := by
  obtain ⟨hO, h5, hR⟩ := hI
  refine sw_0 (pc' := 1555) (L' := lwL m) (st' := [.ref 0]) (M' := tMem B I J) xl1554 rfl rfl ?_
  refine sw_0 (pc' := 1556) (L' := lwL m) (st' := [.retAddr 0, .ref 0]) (M' := tMem B I J) xl1555 rfl rfl ?_
  refine sw_0 (pc' := 1557) (L' := lwL m) (st' := [.int (Int32.ofNat m), .retAddr 0, .ref 0]) (M' := tMem B I J) xl1556 rfl rfl ?_
  refine sw_0 (pc' := 1558) (L' := lwL m) (st' := [.int 1, .int (Int32.ofNat m), .retAddr 0, .ref 0]) (M' := tMem B I J) xl1557 rfl rfl ?_
  refine sw_0 (pc' := 1559) (L' := lwL m) (st' := [.int (Int32.ofNat m + 1), .retAddr 0, .ref 0]) (M' := tMem B I J) xl1558 rfl rfl ?_
  refine sw_ial xl1559 (show Int32.ofNat m + 1 = Int32.ofNat (m + 1) from oi_add (b := 1)) (by omega) hl ?_
  refine sw_0 (pc' := 1561) (L' := lwL m) (st' := [.retAddr 0, .int (sc.getD (m + 1) 0), .ref 0]) (M' := tMem B I J) xl1560 rfl rfl ?_
  refine sw_0 (pc' := 1562) (L' := lwL m) (st' := [.int (Int32.ofNat m), .retAddr 0, .int (sc.getD (m + 1) 0), .ref 0]) (M' := tMem B I J) xl1561 rfl rfl ?_
  refine sw_0 (pc' := 1563) (L' := lwL m) (st' := [.int 2, .int (Int32.ofNat m), .retAddr 0, .int (sc.getD (m + 1) 0), .ref 0]) (M' := tMem B I J) xl1562 rfl rfl ?_
  refine sw_0 (pc' := 1564) (L' := lwL m) (st' := [.int (Int32.ofNat m + 2), .retAddr 0, .int (sc.getD (m + 1) 0), .ref 0]) (M' := tMem B I J) xl1563 rfl rfl ?_
  refine sw_ial xl1564 (show Int32.ofNat m + 2 = Int32.ofNat (m + 2) from oi_add (b := 2)) (by omega) hl ?_
  refine lw_call0 (c := nc190) (as := [.ref 0, .int (sc.getD (m + 1) 0), .int (sc.getD (m + 2) 0)]) (rest := []) (r' := (xt_176, 5, 1)) xl1565 rfl rfl (lw_recv (c := 11) (pB_nok rfl hO) rfl rfl rfl) rfl rfl rfl nN190 hO ⟨_, _, rfl, kv_argr 0, _, _, rfl, kv_arg _, _, _, rfl, kv_arg _, rfl⟩ (fun q hq => by cases hq) (fun v1 B1 I1 J1 hO1 hA1 hp1 hv1 => ?_)
  obtain ⟨x1, rfl, -, -⟩ := kvo_i hv1
  have h51 : npI [(186, 5, 0, 999)] I1 := npI_cg h5 (hA1.1 186 5 rfl).1
  refine sw_0 (pc' := 1569) (L' := lwL m) (st' := []) (M' := tMem B1 I1 J1) xl1568 rfl rfl ?_
  refine sw_0 (pc' := 1570) (L' := lwL m) (st' := [.ref 185]) (M' := tMem B1 I1 J1) xl1569 rfl rfl ?_
  refine sw_0 (pc' := 1571) (L' := lwL m) (st' := [.retAddr 0, .ref 185]) (M' := tMem B1 I1 J1) xl1570 rfl rfl ?_
  refine sw_0 (pc' := 1572) (L' := lwL m) (st' := [.int (Int32.ofNat m), .retAddr 0, .ref 185]) (M' := tMem B1 I1 J1) xl1571 rfl rfl ?_
  refine sw_0 (pc' := 1573) (L' := lwL m) (st' := [.int 1, .int (Int32.ofNat m), .retAddr 0, .ref 185]) (M' := tMem B1 I1 J1) xl1572 rfl rfl ?_
  refine sw_0 (pc' := 1574) (L' := lwL m) (st' := [.int (Int32.ofNat m + 1), .retAddr 0, .ref 185]) (M' := tMem B1 I1 J1) xl1573 rfl rfl ?_
  refine sw_ial xl1574 (show Int32.ofNat m + 1 = Int32.ofNat (m + 1) from oi_add (b := 1)) (by omega) hl ?_
  refine sw_0 (pc' := 1576) (L' := lwL m) (st' := [.retAddr 0, .int (sc.getD (m + 1) 0), .ref 185]) (M' := tMem B1 I1 J1) xl1575 rfl rfl ?_
  refine sw_0 (pc' := 1577) (L' := lwL m) (st' := [.int (Int32.ofNat m), .retAddr 0, .int (sc.getD (m + 1) 0), .ref 185]) (M' := tMem B1 I1 J1) xl1576 rfl rfl ?_
  refine sw_0 (pc' := 1578) (L' := lwL m) (st' := [.int 2, .int (Int32.ofNat m), .retAddr 0, .int (sc.getD (m + 1) 0), .ref 185]) (M' := tMem B1 I1 J1) xl1577 rfl rfl ?_
  refine sw_0 (pc' := 1579) (L' := lwL m) (st' := [.int (Int32.ofNat m + 2), .retAddr 0, .int (sc.getD (m + 1) 0), .ref 185]) (M' := tMem B1 I1 J1) xl1578 rfl rfl ?_
  refine sw_ial xl1579 (show Int32.ofNat m + 2 = Int32.ofNat (m + 2) from oi_add (b := 2)) (by omega) hl ?_
  refine lw_call0 (c := nc191) (as := [.ref 185, .int (sc.getD (m + 1) 0), .int (sc.getD (m + 2) 0)]) (rest := []) (r' := (xt_314, 6, 1)) xl1580 rfl rfl (lw_recv (c := 12) (pB_nok rfl hO1) rfl rfl rfl) rfl rfl rfl nN191 hO1 ⟨_, _, rfl, kv_argr 185, _, _, rfl, kv_arg _, _, _, rfl, kv_arg _, rfl⟩ h51 (fun v2 B2 I2 J2 hO2 hA2 hp2 hv2 => ?_)
  obtain ⟨x2, rfl, -, -⟩ := kvo_i hv2
  have h52 : npI [(186, 5, 0, 999)] I2 := hp2
  have hR1 := R7_ag hA1 (fun _ => ⟨rfl, rfl, rfl, rfl⟩) hR
  have hR2 := R7_ag hA2 (fun _ => ⟨rfl, rfl, rfl, rfl⟩) hR1
  refine sw_0 (pc' := 1584) (L' := lwL m) (st' := []) (M' := tMem B2 I2 J2) xl1583 rfl rfl ?_
  refine sw_0 (pc' := 2214) (L' := lwL m) (st' := []) (M' := tMem B2 I2 J2) xl1584 rfl rfl ?_
  exact hb B2 I2 J2 ⟨hO2, h52, hR2⟩ ⟨hA2.2.2.1.trans hA1.2.2.1, hA2.2.2.2.trans hA1.2.2.2⟩
set_option maxRecDepth 100000 in
theorem lwc41 {sc : List Int32} {B : xM} {I : tI} {J : tJ} {m : Nat} {Q : Option Value → xM → Prop} (hm : m + 6 ≤ sc.length) (hl : sc.length ≤ 3072) (hI : LInv R7 sc B I J) (hb : ∀ B' I' J', LInv R7 sc B' I' J' → kSz B B' → sw sc rLawX 2214 (lwL m) [] (tMem B' I' J') Q) : sw sc rLawX 1587 (lwL m) [] (tMem B I J) Q := by
  obtain ⟨hO, h5, hR⟩ := hI
  refine sw_0 (pc' := 1588) (L' := lwL m) (st' := [.ref 0]) (M' := tMem B I J) xl1587 rfl rfl ?_
  refine sw_0 (pc' := 1589) (L' := lwL m) (st' := [.retAddr 0, .ref 0]) (M' := tMem B I J) xl1588 rfl rfl ?_
  refine sw_0 (pc' := 1590) (L' := lwL m) (st' := [.int (Int32.ofNat m), .retAddr 0, .ref 0]) (M' := tMem B I J) xl1589 rfl rfl ?_
  refine sw_0 (pc' := 1591) (L' := lwL m) (st' := [.int 1, .int (Int32.ofNat m), .retAddr 0, .ref 0]) (M' := tMem B I J) xl1590 rfl rfl ?_
  refine sw_0 (pc' := 1592) (L' := lwL m) (st' := [.int (Int32.ofNat m + 1), .retAddr 0, .ref 0]) (M' := tMem B I J) xl1591 rfl rfl ?_
  refine sw_ial xl1592 (show Int32.ofNat m + 1 = Int32.ofNat (m + 1) from oi_add (b := 1)) (by omega) hl ?_
  refine sw_0 (pc' := 1594) (L' := lwL m) (st' := [.retAddr 0, .int (sc.getD (m + 1) 0), .ref 0]) (M' := tMem B I J) xl1593 rfl rfl ?_
  refine sw_0 (pc' := 1595) (L' := lwL m) (st' := [.int (Int32.ofNat m), .retAddr 0, .int (sc.getD (m + 1) 0), .ref 0]) (M' := tMem B I J) xl1594 rfl rfl ?_
  refine sw_0 (pc' := 1596) (L' := lwL m) (st' := [.int 2, .int (Int32.ofNat m), .retAddr 0, .int (sc.getD (m + 1) 0), .ref 0]) (M' := tMem B I J) xl1595 rfl rfl ?_
  refine sw_0 (pc' := 1597) (L' := lwL m) (st' := [.int (Int32.ofNat m + 2), .retAddr 0, .int (sc.getD (m + 1) 0), .ref 0]) (M' := tMem B I J) xl1596 rfl rfl ?_
  refine sw_ial xl1597 (show Int32.ofNat m + 2 = Int32.ofNat (m + 2) from oi_add (b := 2)) (by omega) hl ?_
  refine lw_call0 (c := nc195) (as := [.ref 0, .int (sc.getD (m + 1) 0), .int (sc.getD (m + 2) 0)]) (rest := []) (r' := (xt_177, 5, 1)) xl1598 rfl rfl (lw_recv (c := 11) (pB_nok rfl hO) rfl rfl rfl) rfl rfl rfl nN195 hO ⟨_, _, rfl, kv_argr 0, _, _, rfl, kv_arg _, _, _, rfl, kv_arg _, rfl⟩ (fun q hq => by cases hq) (fun v1 B1 I1 J1 hO1 hA1 hp1 hv1 => ?_)
  obtain ⟨x1, rfl, -, -⟩ := kvo_i hv1
  have h51 : npI [(186, 5, 0, 999)] I1 := npI_cg h5 (hA1.1 186 5 rfl).1
  refine sw_0 (pc' := 1602) (L' := lwL m) (st' := []) (M' := tMem B1 I1 J1) xl1601 rfl rfl ?_
  refine sw_0 (pc' := 1603) (L' := lwL m) (st' := [.ref 185]) (M' := tMem B1 I1 J1) xl1602 rfl rfl ?_
  refine sw_0 (pc' := 1604) (L' := lwL m) (st' := [.retAddr 0, .ref 185]) (M' := tMem B1 I1 J1) xl1603 rfl rfl ?_
  refine sw_0 (pc' := 1605) (L' := lwL m) (st' := [.int (Int32.ofNat m), .retAddr 0, .ref 185]) (M' := tMem B1 I1 J1) xl1604 rfl rfl ?_
  refine sw_0 (pc' := 1606) (L' := lwL m) (st' := [.int 1, .int (Int32.ofNat m), .retAddr 0, .ref 185]) (M' := tMem B1 I1 J1) xl1605 rfl rfl ?_
  refine sw_0 (pc' := 1607) (L' := lwL m) (st' := [.int (Int32.ofNat m + 1), .retAddr 0, .ref 185]) (M' := tMem B1 I1 J1) xl1606 rfl rfl ?_
  refine sw_ial xl1607 (show Int32.ofNat m + 1 = Int32.ofNat (m + 1) from oi_add (b := 1)) (by omega) hl ?_
  refine sw_0 (pc' := 1609) (L' := lwL m) (st' := [.retAddr 0, .int (sc.getD (m + 1) 0), .ref 185]) (M' := tMem B1 I1 J1) xl1608 rfl rfl ?_
  refine sw_0 (pc' := 1610) (L' := lwL m) (st' := [.int (Int32.ofNat m), .retAddr 0, .int (sc.getD (m + 1) 0), .ref 185]) (M' := tMem B1 I1 J1) xl1609 rfl rfl ?_
  refine sw_0 (pc' := 1611) (L' := lwL m) (st' := [.int 2, .int (Int32.ofNat m), .retAddr 0, .int (sc.getD (m + 1) 0), .ref 185]) (M' := tMem B1 I1 J1) xl1610 rfl rfl ?_
  refine sw_0 (pc' := 1612) (L' := lwL m) (st' := [.int (Int32.ofNat m + 2), .retAddr 0, .int (sc.getD (m + 1) 0), .ref 185]) (M' := tMem B1 I1 J1) xl1611 rfl rfl ?_
  refine sw_ial xl1612 (show Int32.ofNat m + 2 = Int32.ofNat (m + 2) from oi_add (b := 2)) (by omega) hl ?_
  refine lw_call0 (c := nc199) (as := [.ref 185, .int (sc.getD (m + 1) 0), .int (sc.getD (m + 2) 0)]) (rest := []) (r' := (xt_318, 4, 1)) xl1613 rfl rfl (lw_recv (c := 12) (pB_nok rfl hO1) rfl rfl rfl) rfl rfl rfl nN199 hO1 ⟨_, _, rfl, kv_argr 185, _, _, rfl, kv_arg _, _, _, rfl, kv_arg _, rfl⟩ h51 (fun v2 B2 I2 J2 hO2 hA2 hp2 hv2 => ?_)
  obtain ⟨x2, rfl, -, -⟩ := kvo_i hv2
  have h52 : npI [(186, 5, 0, 999)] I2 := hp2
  have hR1 := R7_ag hA1 (fun _ => ⟨rfl, rfl, rfl, rfl⟩) hR
  have hR2 := R7_ag hA2 (fun _ => ⟨rfl, rfl, rfl, rfl⟩) hR1
  refine sw_0 (pc' := 1617) (L' := lwL m) (st' := []) (M' := tMem B2 I2 J2) xl1616 rfl rfl ?_
  refine sw_0 (pc' := 2214) (L' := lwL m) (st' := []) (M' := tMem B2 I2 J2) xl1617 rfl rfl ?_
  exact hb B2 I2 J2 ⟨hO2, h52, hR2⟩ ⟨hA2.2.2.1.trans hA1.2.2.1, hA2.2.2.2.trans hA1.2.2.2⟩
set_option maxRecDepth 100000 in
theorem lwc42 {sc : List Int32} {B : xM} {I : tI} {J : tJ} {m : Nat} {Q : Option Value → xM → Prop} (hm : m + 6 ≤ sc.length) (hl : sc.length ≤ 3072) (hI : LInv R7 sc B I J) (hb : ∀ B' I' J', LInv R7 sc B' I' J' → kSz B B' → sw sc rLawX 2214 (lwL m) [] (tMem B' I' J') Q) : sw sc rLawX 1620 (lwL m) [] (tMem B I J) Q := by
  obtain ⟨hO, h5, hR⟩ := hI
  refine sw_0 (pc' := 1621) (L' := lwL m) (st' := [.ref 0]) (M' := tMem B I J) xl1620 rfl rfl ?_
  refine sw_0 (pc' := 1622) (L' := lwL m) (st' := [.retAddr 0, .ref 0]) (M' := tMem B I J) xl1621 rfl rfl ?_
  refine sw_0 (pc' := 1623) (L' := lwL m) (st' := [.int (Int32.ofNat m), .retAddr 0, .ref 0]) (M' := tMem B I J) xl1622 rfl rfl ?_
  refine sw_0 (pc' := 1624) (L' := lwL m) (st' := [.int 1, .int (Int32.ofNat m), .retAddr 0, .ref 0]) (M' := tMem B I J) xl1623 rfl rfl ?_
  refine sw_0 (pc' := 1625) (L' := lwL m) (st' := [.int (Int32.ofNat m + 1), .retAddr 0, .ref 0]) (M' := tMem B I J) xl1624 rfl rfl ?_
  refine sw_ial xl1625 (show Int32.ofNat m + 1 = Int32.ofNat (m + 1) from oi_add (b := 1)) (by omega) hl ?_
  refine sw_0 (pc' := 1627) (L' := lwL m) (st' := [.retAddr 0, .int (sc.getD (m + 1) 0), .ref 0]) (M' := tMem B I J) xl1626 rfl rfl ?_
  refine sw_0 (pc' := 1628) (L' := lwL m) (st' := [.int (Int32.ofNat m), .retAddr 0, .int (sc.getD (m + 1) 0), .ref 0]) (M' := tMem B I J) xl1627 rfl rfl ?_
  refine sw_0 (pc' := 1629) (L' := lwL m) (st' := [.int 2, .int (Int32.ofNat m), .retAddr 0, .int (sc.getD (m + 1) 0), .ref 0]) (M' := tMem B I J) xl1628 rfl rfl ?_
  refine sw_0 (pc' := 1630) (L' := lwL m) (st' := [.int (Int32.ofNat m + 2), .retAddr 0, .int (sc.getD (m + 1) 0), .ref 0]) (M' := tMem B I J) xl1629 rfl rfl ?_
  refine sw_ial xl1630 (show Int32.ofNat m + 2 = Int32.ofNat (m + 2) from oi_add (b := 2)) (by omega) hl ?_
  refine lw_call0 (c := nc200) (as := [.ref 0, .int (sc.getD (m + 1) 0), .int (sc.getD (m + 2) 0)]) (rest := []) (r' := (xt_178, 5, 1)) xl1631 rfl rfl (lw_recv (c := 11) (pB_nok rfl hO) rfl rfl rfl) rfl rfl rfl nN200 hO ⟨_, _, rfl, kv_argr 0, _, _, rfl, kv_arg _, _, _, rfl, kv_arg _, rfl⟩ (fun q hq => by cases hq) (fun v1 B1 I1 J1 hO1 hA1 hp1 hv1 => ?_)
  obtain ⟨x1, rfl, -, -⟩ := kvo_i hv1
  have h51 : npI [(186, 5, 0, 999)] I1 := npI_cg h5 (hA1.1 186 5 rfl).1
  refine sw_0 (pc' := 1635) (L' := lwL m) (st' := []) (M' := tMem B1 I1 J1) xl1634 rfl rfl ?_
  refine sw_0 (pc' := 1636) (L' := lwL m) (st' := [.ref 185]) (M' := tMem B1 I1 J1) xl1635 rfl rfl ?_
  refine sw_0 (pc' := 1637) (L' := lwL m) (st' := [.retAddr 0, .ref 185]) (M' := tMem B1 I1 J1) xl1636 rfl rfl ?_
  refine sw_0 (pc' := 1638) (L' := lwL m) (st' := [.int (Int32.ofNat m), .retAddr 0, .ref 185]) (M' := tMem B1 I1 J1) xl1637 rfl rfl ?_
  refine sw_0 (pc' := 1639) (L' := lwL m) (st' := [.int 1, .int (Int32.ofNat m), .retAddr 0, .ref 185]) (M' := tMem B1 I1 J1) xl1638 rfl rfl ?_
  refine sw_0 (pc' := 1640) (L' := lwL m) (st' := [.int (Int32.ofNat m + 1), .retAddr 0, .ref 185]) (M' := tMem B1 I1 J1) xl1639 rfl rfl ?_
  refine sw_ial xl1640 (show Int32.ofNat m + 1 = Int32.ofNat (m + 1) from oi_add (b := 1)) (by omega) hl ?_
  refine sw_0 (pc' := 1642) (L' := lwL m) (st' := [.retAddr 0, .int (sc.getD (m + 1) 0), .ref 185]) (M' := tMem B1 I1 J1) xl1641 rfl rfl ?_
  refine sw_0 (pc' := 1643) (L' := lwL m) (st' := [.int (Int32.ofNat m), .retAddr 0, .int (sc.getD (m + 1) 0), .ref 185]) (M' := tMem B1 I1 J1) xl1642 rfl rfl ?_
  refine sw_0 (pc' := 1644) (L' := lwL m) (st' := [.int 2, .int (Int32.ofNat m), .retAddr 0, .int (sc.getD (m + 1) 0), .ref 185]) (M' := tMem B1 I1 J1) xl1643 rfl rfl ?_
  refine sw_0 (pc' := 1645) (L' := lwL m) (st' := [.int (Int32.ofNat m + 2), .retAddr 0, .int (sc.getD (m + 1) 0), .ref 185]) (M' := tMem B1 I1 J1) xl1644 rfl rfl ?_
  refine sw_ial xl1645 (show Int32.ofNat m + 2 = Int32.ofNat (m + 2) from oi_add (b := 2)) (by omega) hl ?_
  refine lw_call0 (c := nc201) (as := [.ref 185, .int (sc.getD (m + 1) 0), .int (sc.getD (m + 2) 0)]) (rest := []) (r' := (xt_319, 3, 1)) xl1646 rfl rfl (lw_recv (c := 12) (pB_nok rfl hO1) rfl rfl rfl) rfl rfl rfl nN201 hO1 ⟨_, _, rfl, kv_argr 185, _, _, rfl, kv_arg _, _, _, rfl, kv_arg _, rfl⟩ h51 (fun v2 B2 I2 J2 hO2 hA2 hp2 hv2 => ?_)
  obtain ⟨x2, rfl, -, -⟩ := kvo_i hv2
  have h52 : npI [(186, 5, 0, 999)] I2 := hp2
  have hR1 := R7_ag hA1 (fun _ => ⟨rfl, rfl, rfl, rfl⟩) hR
  have hR2 := R7_ag hA2 (fun _ => ⟨rfl, rfl, rfl, rfl⟩) hR1
  refine sw_0 (pc' := 1650) (L' := lwL m) (st' := []) (M' := tMem B2 I2 J2) xl1649 rfl rfl ?_
  refine sw_0 (pc' := 2214) (L' := lwL m) (st' := []) (M' := tMem B2 I2 J2) xl1650 rfl rfl ?_
  exact hb B2 I2 J2 ⟨hO2, h52, hR2⟩ ⟨hA2.2.2.1.trans hA1.2.2.1, hA2.2.2.2.trans hA1.2.2.2⟩
set_option maxRecDepth 100000 in
theorem lwc43 {sc : List Int32} {B : xM} {I : tI} {J : tJ} {m : Nat} {Q : Option Value → xM → Prop} (hm : m + 6 ≤ sc.length) (hl : sc.length ≤ 3072) (hI : LInv R7 sc B I J) (hb : ∀ B' I' J', LInv R7 sc B' I' J' → kSz B B' → sw sc rLawX 2214 (lwL m) [] (tMem B' I' J') Q) : sw sc rLawX 1653 (lwL m) [] (tMem B I J) Q := by
  obtain ⟨hO, h5, hR⟩ := hI
  refine sw_0 (pc' := 1654) (L' := lwL m) (st' := [.ref 0]) (M' := tMem B I J) xl1653 rfl rfl ?_
  refine sw_0 (pc' := 1655) (L' := lwL m) (st' := [.retAddr 0, .ref 0]) (M' := tMem B I J) xl1654 rfl rfl ?_
  refine sw_0 (pc' := 1656) (L' := lwL m) (st' := [.int (Int32.ofNat m), .retAddr 0, .ref 0]) (M' := tMem B I J) xl1655 rfl rfl ?_
  refine sw_0 (pc' := 1657) (L' := lwL m) (st' := [.int 1, .int (Int32.ofNat m), .retAddr 0, .ref 0]) (M' := tMem B I J) xl1656 rfl rfl ?_
  refine sw_0 (pc' := 1658) (L' := lwL m) (st' := [.int (Int32.ofNat m + 1), .retAddr 0, .ref 0]) (M' := tMem B I J) xl1657 rfl rfl ?_
  refine sw_ial xl1658 (show Int32.ofNat m + 1 = Int32.ofNat (m + 1) from oi_add (b := 1)) (by omega) hl ?_
  refine sw_0 (pc' := 1660) (L' := lwL m) (st' := [.retAddr 0, .int (sc.getD (m + 1) 0), .ref 0]) (M' := tMem B I J) xl1659 rfl rfl ?_
  refine sw_0 (pc' := 1661) (L' := lwL m) (st' := [.int (Int32.ofNat m), .retAddr 0, .int (sc.getD (m + 1) 0), .ref 0]) (M' := tMem B I J) xl1660 rfl rfl ?_
  refine sw_0 (pc' := 1662) (L' := lwL m) (st' := [.int 2, .int (Int32.ofNat m), .retAddr 0, .int (sc.getD (m + 1) 0), .ref 0]) (M' := tMem B I J) xl1661 rfl rfl ?_
  refine sw_0 (pc' := 1663) (L' := lwL m) (st' := [.int (Int32.ofNat m + 2), .retAddr 0, .int (sc.getD (m + 1) 0), .ref 0]) (M' := tMem B I J) xl1662 rfl rfl ?_
  refine sw_ial xl1663 (show Int32.ofNat m + 2 = Int32.ofNat (m + 2) from oi_add (b := 2)) (by omega) hl ?_
  refine lw_call0 (c := nc202) (as := [.ref 0, .int (sc.getD (m + 1) 0), .int (sc.getD (m + 2) 0)]) (rest := []) (r' := (xt_179, 5, 1)) xl1664 rfl rfl (lw_recv (c := 11) (pB_nok rfl hO) rfl rfl rfl) rfl rfl rfl nN202 hO ⟨_, _, rfl, kv_argr 0, _, _, rfl, kv_arg _, _, _, rfl, kv_arg _, rfl⟩ (fun q hq => by cases hq) (fun v1 B1 I1 J1 hO1 hA1 hp1 hv1 => ?_)
  obtain ⟨x1, rfl, -, -⟩ := kvo_i hv1
  have h51 : npI [(186, 5, 0, 999)] I1 := npI_cg h5 (hA1.1 186 5 rfl).1
  refine sw_0 (pc' := 1668) (L' := lwL m) (st' := []) (M' := tMem B1 I1 J1) xl1667 rfl rfl ?_
  refine sw_0 (pc' := 1669) (L' := lwL m) (st' := [.ref 185]) (M' := tMem B1 I1 J1) xl1668 rfl rfl ?_
  refine sw_0 (pc' := 1670) (L' := lwL m) (st' := [.retAddr 0, .ref 185]) (M' := tMem B1 I1 J1) xl1669 rfl rfl ?_
  refine sw_0 (pc' := 1671) (L' := lwL m) (st' := [.int (Int32.ofNat m), .retAddr 0, .ref 185]) (M' := tMem B1 I1 J1) xl1670 rfl rfl ?_
  refine sw_0 (pc' := 1672) (L' := lwL m) (st' := [.int 1, .int (Int32.ofNat m), .retAddr 0, .ref 185]) (M' := tMem B1 I1 J1) xl1671 rfl rfl ?_
  refine sw_0 (pc' := 1673) (L' := lwL m) (st' := [.int (Int32.ofNat m + 1), .retAddr 0, .ref 185]) (M' := tMem B1 I1 J1) xl1672 rfl rfl ?_
  refine sw_ial xl1673 (show Int32.ofNat m + 1 = Int32.ofNat (m + 1) from oi_add (b := 1)) (by omega) hl ?_
  refine sw_0 (pc' := 1675) (L' := lwL m) (st' := [.retAddr 0, .int (sc.getD (m + 1) 0), .ref 185]) (M' := tMem B1 I1 J1) xl1674 rfl rfl ?_
  refine sw_0 (pc' := 1676) (L' := lwL m) (st' := [.int (Int32.ofNat m), .retAddr 0, .int (sc.getD (m + 1) 0), .ref 185]) (M' := tMem B1 I1 J1) xl1675 rfl rfl ?_
  refine sw_0 (pc' := 1677) (L' := lwL m) (st' := [.int 2, .int (Int32.ofNat m), .retAddr 0, .int (sc.getD (m + 1) 0), .ref 185]) (M' := tMem B1 I1 J1) xl1676 rfl rfl ?_
  refine sw_0 (pc' := 1678) (L' := lwL m) (st' := [.int (Int32.ofNat m + 2), .retAddr 0, .int (sc.getD (m + 1) 0), .ref 185]) (M' := tMem B1 I1 J1) xl1677 rfl rfl ?_
  refine sw_ial xl1678 (show Int32.ofNat m + 2 = Int32.ofNat (m + 2) from oi_add (b := 2)) (by omega) hl ?_
  refine lw_call0 (c := nc203) (as := [.ref 185, .int (sc.getD (m + 1) 0), .int (sc.getD (m + 2) 0)]) (rest := []) (r' := (xt_320, 5, 1)) xl1679 rfl rfl (lw_recv (c := 12) (pB_nok rfl hO1) rfl rfl rfl) rfl rfl rfl nN203 hO1 ⟨_, _, rfl, kv_argr 185, _, _, rfl, kv_arg _, _, _, rfl, kv_arg _, rfl⟩ h51 (fun v2 B2 I2 J2 hO2 hA2 hp2 hv2 => ?_)
  obtain ⟨x2, rfl, -, -⟩ := kvo_i hv2
  have h52 : npI [(186, 5, 0, 999)] I2 := hp2
  have hR1 := R7_ag hA1 (fun _ => ⟨rfl, rfl, rfl, rfl⟩) hR
  have hR2 := R7_ag hA2 (fun _ => ⟨rfl, rfl, rfl, rfl⟩) hR1
  refine sw_0 (pc' := 1683) (L' := lwL m) (st' := []) (M' := tMem B2 I2 J2) xl1682 rfl rfl ?_
  refine sw_0 (pc' := 2214) (L' := lwL m) (st' := []) (M' := tMem B2 I2 J2) xl1683 rfl rfl ?_
  exact hb B2 I2 J2 ⟨hO2, h52, hR2⟩ ⟨hA2.2.2.1.trans hA1.2.2.1, hA2.2.2.2.trans hA1.2.2.2⟩
set_option maxRecDepth 100000 in
theorem lwc44 {sc : List Int32} {B : xM} {I : tI} {J : tJ} {m : Nat} {Q : Option Value → xM → Prop} (hm : m + 6 ≤ sc.length) (hl : sc.length ≤ 3072) (hI : LInv R7 sc B I J) (hb : ∀ B' I' J', LInv R7 sc B' I' J' → kSz B B' → sw sc rLawX 2214 (lwL m) [] (tMem B' I' J') Q) : sw sc rLawX 1686 (lwL m) [] (tMem B I J) Q := by
  obtain ⟨hO, h5, hR⟩ := hI
  refine sw_0 (pc' := 1687) (L' := lwL m) (st' := [.ref 0]) (M' := tMem B I J) xl1686 rfl rfl ?_
  refine sw_0 (pc' := 1688) (L' := lwL m) (st' := [.retAddr 0, .ref 0]) (M' := tMem B I J) xl1687 rfl rfl ?_
  refine sw_0 (pc' := 1689) (L' := lwL m) (st' := [.int (Int32.ofNat m), .retAddr 0, .ref 0]) (M' := tMem B I J) xl1688 rfl rfl ?_
  refine sw_0 (pc' := 1690) (L' := lwL m) (st' := [.int 1, .int (Int32.ofNat m), .retAddr 0, .ref 0]) (M' := tMem B I J) xl1689 rfl rfl ?_
  refine sw_0 (pc' := 1691) (L' := lwL m) (st' := [.int (Int32.ofNat m + 1), .retAddr 0, .ref 0]) (M' := tMem B I J) xl1690 rfl rfl ?_
  refine sw_ial xl1691 (show Int32.ofNat m + 1 = Int32.ofNat (m + 1) from oi_add (b := 1)) (by omega) hl ?_
  refine sw_0 (pc' := 1693) (L' := lwL m) (st' := [.retAddr 0, .int (sc.getD (m + 1) 0), .ref 0]) (M' := tMem B I J) xl1692 rfl rfl ?_
  refine sw_0 (pc' := 1694) (L' := lwL m) (st' := [.int (Int32.ofNat m), .retAddr 0, .int (sc.getD (m + 1) 0), .ref 0]) (M' := tMem B I J) xl1693 rfl rfl ?_
  refine sw_0 (pc' := 1695) (L' := lwL m) (st' := [.int 2, .int (Int32.ofNat m), .retAddr 0, .int (sc.getD (m + 1) 0), .ref 0]) (M' := tMem B I J) xl1694 rfl rfl ?_
  refine sw_0 (pc' := 1696) (L' := lwL m) (st' := [.int (Int32.ofNat m + 2), .retAddr 0, .int (sc.getD (m + 1) 0), .ref 0]) (M' := tMem B I J) xl1695 rfl rfl ?_
  refine sw_ial xl1696 (show Int32.ofNat m + 2 = Int32.ofNat (m + 2) from oi_add (b := 2)) (by omega) hl ?_
  refine lw_call0 (c := nc204) (as := [.ref 0, .int (sc.getD (m + 1) 0), .int (sc.getD (m + 2) 0)]) (rest := []) (r' := (xt_180, 4, 1)) xl1697 rfl rfl (lw_recv (c := 11) (pB_nok rfl hO) rfl rfl rfl) rfl rfl rfl nN204 hO ⟨_, _, rfl, kv_argr 0, _, _, rfl, kv_arg _, _, _, rfl, kv_arg _, rfl⟩ (fun q hq => by cases hq) (fun v1 B1 I1 J1 hO1 hA1 hp1 hv1 => ?_)
  obtain ⟨x1, rfl, -, -⟩ := kvo_i hv1
  have h51 : npI [(186, 5, 0, 999)] I1 := npI_cg h5 (hA1.1 186 5 rfl).1
  refine sw_0 (pc' := 1701) (L' := lwL m) (st' := []) (M' := tMem B1 I1 J1) xl1700 rfl rfl ?_
  refine sw_0 (pc' := 1702) (L' := lwL m) (st' := [.ref 185]) (M' := tMem B1 I1 J1) xl1701 rfl rfl ?_
  refine sw_0 (pc' := 1703) (L' := lwL m) (st' := [.retAddr 0, .ref 185]) (M' := tMem B1 I1 J1) xl1702 rfl rfl ?_
  refine sw_0 (pc' := 1704) (L' := lwL m) (st' := [.int (Int32.ofNat m), .retAddr 0, .ref 185]) (M' := tMem B1 I1 J1) xl1703 rfl rfl ?_
  refine sw_0 (pc' := 1705) (L' := lwL m) (st' := [.int 1, .int (Int32.ofNat m), .retAddr 0, .ref 185]) (M' := tMem B1 I1 J1) xl1704 rfl rfl ?_
  refine sw_0 (pc' := 1706) (L' := lwL m) (st' := [.int (Int32.ofNat m + 1), .retAddr 0, .ref 185]) (M' := tMem B1 I1 J1) xl1705 rfl rfl ?_
  refine sw_ial xl1706 (show Int32.ofNat m + 1 = Int32.ofNat (m + 1) from oi_add (b := 1)) (by omega) hl ?_
  refine sw_0 (pc' := 1708) (L' := lwL m) (st' := [.retAddr 0, .int (sc.getD (m + 1) 0), .ref 185]) (M' := tMem B1 I1 J1) xl1707 rfl rfl ?_
  refine sw_0 (pc' := 1709) (L' := lwL m) (st' := [.int (Int32.ofNat m), .retAddr 0, .int (sc.getD (m + 1) 0), .ref 185]) (M' := tMem B1 I1 J1) xl1708 rfl rfl ?_
  refine sw_0 (pc' := 1710) (L' := lwL m) (st' := [.int 2, .int (Int32.ofNat m), .retAddr 0, .int (sc.getD (m + 1) 0), .ref 185]) (M' := tMem B1 I1 J1) xl1709 rfl rfl ?_
  refine sw_0 (pc' := 1711) (L' := lwL m) (st' := [.int (Int32.ofNat m + 2), .retAddr 0, .int (sc.getD (m + 1) 0), .ref 185]) (M' := tMem B1 I1 J1) xl1710 rfl rfl ?_
  refine sw_ial xl1711 (show Int32.ofNat m + 2 = Int32.ofNat (m + 2) from oi_add (b := 2)) (by omega) hl ?_
  refine lw_call0 (c := nc205) (as := [.ref 185, .int (sc.getD (m + 1) 0), .int (sc.getD (m + 2) 0)]) (rest := []) (r' := (xt_322, 4, 1)) xl1712 rfl rfl (lw_recv (c := 12) (pB_nok rfl hO1) rfl rfl rfl) rfl rfl rfl nN205 hO1 ⟨_, _, rfl, kv_argr 185, _, _, rfl, kv_arg _, _, _, rfl, kv_arg _, rfl⟩ h51 (fun v2 B2 I2 J2 hO2 hA2 hp2 hv2 => ?_)
  obtain ⟨x2, rfl, -, -⟩ := kvo_i hv2
  have h52 : npI [(186, 5, 0, 999)] I2 := hp2
  have hR1 := R7_ag hA1 (fun _ => ⟨rfl, rfl, rfl, rfl⟩) hR
  have hR2 := R7_ag hA2 (fun _ => ⟨rfl, rfl, rfl, rfl⟩) hR1
  refine sw_0 (pc' := 1716) (L' := lwL m) (st' := []) (M' := tMem B2 I2 J2) xl1715 rfl rfl ?_
  refine sw_0 (pc' := 2214) (L' := lwL m) (st' := []) (M' := tMem B2 I2 J2) xl1716 rfl rfl ?_
  exact hb B2 I2 J2 ⟨hO2, h52, hR2⟩ ⟨hA2.2.2.1.trans hA1.2.2.1, hA2.2.2.2.trans hA1.2.2.2⟩
set_option maxRecDepth 100000 in
theorem lwc45 {sc : List Int32} {B : xM} {I : tI} {J : tJ} {m : Nat} {Q : Option Value → xM → Prop} (hm : m + 6 ≤ sc.length) (hl : sc.length ≤ 3072) (hI : LInv R7 sc B I J) (hb : ∀ B' I' J', LInv R7 sc B' I' J' → kSz B B' → sw sc rLawX 2214 (lwL m) [] (tMem B' I' J') Q) : sw sc rLawX 1719 (lwL m) [] (tMem B I J) Q := by
  obtain ⟨hO, h5, hR⟩ := hI
  refine sw_0 (pc' := 1720) (L' := lwL m) (st' := [.ref 0]) (M' := tMem B I J) xl1719 rfl rfl ?_
  refine sw_0 (pc' := 1721) (L' := lwL m) (st' := [.retAddr 0, .ref 0]) (M' := tMem B I J) xl1720 rfl rfl ?_
  refine sw_0 (pc' := 1722) (L' := lwL m) (st' := [.int (Int32.ofNat m), .retAddr 0, .ref 0]) (M' := tMem B I J) xl1721 rfl rfl ?_
  refine sw_0 (pc' := 1723) (L' := lwL m) (st' := [.int 1, .int (Int32.ofNat m), .retAddr 0, .ref 0]) (M' := tMem B I J) xl1722 rfl rfl ?_
  refine sw_0 (pc' := 1724) (L' := lwL m) (st' := [.int (Int32.ofNat m + 1), .retAddr 0, .ref 0]) (M' := tMem B I J) xl1723 rfl rfl ?_
  refine sw_ial xl1724 (show Int32.ofNat m + 1 = Int32.ofNat (m + 1) from oi_add (b := 1)) (by omega) hl ?_
  refine sw_0 (pc' := 1726) (L' := lwL m) (st' := [.retAddr 0, .int (sc.getD (m + 1) 0), .ref 0]) (M' := tMem B I J) xl1725 rfl rfl ?_
  refine sw_0 (pc' := 1727) (L' := lwL m) (st' := [.int (Int32.ofNat m), .retAddr 0, .int (sc.getD (m + 1) 0), .ref 0]) (M' := tMem B I J) xl1726 rfl rfl ?_
  refine sw_0 (pc' := 1728) (L' := lwL m) (st' := [.int 2, .int (Int32.ofNat m), .retAddr 0, .int (sc.getD (m + 1) 0), .ref 0]) (M' := tMem B I J) xl1727 rfl rfl ?_
  refine sw_0 (pc' := 1729) (L' := lwL m) (st' := [.int (Int32.ofNat m + 2), .retAddr 0, .int (sc.getD (m + 1) 0), .ref 0]) (M' := tMem B I J) xl1728 rfl rfl ?_
  refine sw_ial xl1729 (show Int32.ofNat m + 2 = Int32.ofNat (m + 2) from oi_add (b := 2)) (by omega) hl ?_
  refine lw_call0 (c := nc206) (as := [.ref 0, .int (sc.getD (m + 1) 0), .int (sc.getD (m + 2) 0)]) (rest := []) (r' := (xt_181, 4, 1)) xl1730 rfl rfl (lw_recv (c := 11) (pB_nok rfl hO) rfl rfl rfl) rfl rfl rfl nN206 hO ⟨_, _, rfl, kv_argr 0, _, _, rfl, kv_arg _, _, _, rfl, kv_arg _, rfl⟩ (fun q hq => by cases hq) (fun v1 B1 I1 J1 hO1 hA1 hp1 hv1 => ?_)
  obtain ⟨x1, rfl, -, -⟩ := kvo_i hv1
  have h51 : npI [(186, 5, 0, 999)] I1 := npI_cg h5 (hA1.1 186 5 rfl).1
  refine sw_0 (pc' := 1734) (L' := lwL m) (st' := []) (M' := tMem B1 I1 J1) xl1733 rfl rfl ?_
  refine sw_0 (pc' := 1735) (L' := lwL m) (st' := [.ref 185]) (M' := tMem B1 I1 J1) xl1734 rfl rfl ?_
  refine sw_0 (pc' := 1736) (L' := lwL m) (st' := [.retAddr 0, .ref 185]) (M' := tMem B1 I1 J1) xl1735 rfl rfl ?_
  refine sw_0 (pc' := 1737) (L' := lwL m) (st' := [.int (Int32.ofNat m), .retAddr 0, .ref 185]) (M' := tMem B1 I1 J1) xl1736 rfl rfl ?_
  refine sw_0 (pc' := 1738) (L' := lwL m) (st' := [.int 1, .int (Int32.ofNat m), .retAddr 0, .ref 185]) (M' := tMem B1 I1 J1) xl1737 rfl rfl ?_
  refine sw_0 (pc' := 1739) (L' := lwL m) (st' := [.int (Int32.ofNat m + 1), .retAddr 0, .ref 185]) (M' := tMem B1 I1 J1) xl1738 rfl rfl ?_
  refine sw_ial xl1739 (show Int32.ofNat m + 1 = Int32.ofNat (m + 1) from oi_add (b := 1)) (by omega) hl ?_
  refine sw_0 (pc' := 1741) (L' := lwL m) (st' := [.retAddr 0, .int (sc.getD (m + 1) 0), .ref 185]) (M' := tMem B1 I1 J1) xl1740 rfl rfl ?_
  refine sw_0 (pc' := 1742) (L' := lwL m) (st' := [.int (Int32.ofNat m), .retAddr 0, .int (sc.getD (m + 1) 0), .ref 185]) (M' := tMem B1 I1 J1) xl1741 rfl rfl ?_
  refine sw_0 (pc' := 1743) (L' := lwL m) (st' := [.int 2, .int (Int32.ofNat m), .retAddr 0, .int (sc.getD (m + 1) 0), .ref 185]) (M' := tMem B1 I1 J1) xl1742 rfl rfl ?_
  refine sw_0 (pc' := 1744) (L' := lwL m) (st' := [.int (Int32.ofNat m + 2), .retAddr 0, .int (sc.getD (m + 1) 0), .ref 185]) (M' := tMem B1 I1 J1) xl1743 rfl rfl ?_
  refine sw_ial xl1744 (show Int32.ofNat m + 2 = Int32.ofNat (m + 2) from oi_add (b := 2)) (by omega) hl ?_
  refine lw_call0 (c := nc207) (as := [.ref 185, .int (sc.getD (m + 1) 0), .int (sc.getD (m + 2) 0)]) (rest := []) (r' := (xt_323, 4, 1)) xl1745 rfl rfl (lw_recv (c := 12) (pB_nok rfl hO1) rfl rfl rfl) rfl rfl rfl nN207 hO1 ⟨_, _, rfl, kv_argr 185, _, _, rfl, kv_arg _, _, _, rfl, kv_arg _, rfl⟩ h51 (fun v2 B2 I2 J2 hO2 hA2 hp2 hv2 => ?_)
  obtain ⟨x2, rfl, -, -⟩ := kvo_i hv2
  have h52 : npI [(186, 5, 0, 999)] I2 := hp2
  have hR1 := R7_ag hA1 (fun _ => ⟨rfl, rfl, rfl, rfl⟩) hR
  have hR2 := R7_ag hA2 (fun _ => ⟨rfl, rfl, rfl, rfl⟩) hR1
  refine sw_0 (pc' := 1749) (L' := lwL m) (st' := []) (M' := tMem B2 I2 J2) xl1748 rfl rfl ?_
  refine sw_0 (pc' := 2214) (L' := lwL m) (st' := []) (M' := tMem B2 I2 J2) xl1749 rfl rfl ?_
  exact hb B2 I2 J2 ⟨hO2, h52, hR2⟩ ⟨hA2.2.2.1.trans hA1.2.2.1, hA2.2.2.2.trans hA1.2.2.2⟩
set_option maxRecDepth 100000 in
theorem lwc46 {sc : List Int32} {B : xM} {I : tI} {J : tJ} {m : Nat} {Q : Option Value → xM → Prop} (hm : m + 6 ≤ sc.length) (hl : sc.length ≤ 3072) (hI : LInv R7 sc B I J) (hb : ∀ B' I' J', LInv R7 sc B' I' J' → kSz B B' → sw sc rLawX 2214 (lwL m) [] (tMem B' I' J') Q) : sw sc rLawX 1752 (lwL m) [] (tMem B I J) Q := by
  obtain ⟨hO, h5, hR⟩ := hI
  refine sw_0 (pc' := 1753) (L' := lwL m) (st' := [.ref 0]) (M' := tMem B I J) xl1752 rfl rfl ?_
  refine sw_0 (pc' := 1754) (L' := lwL m) (st' := [.retAddr 0, .ref 0]) (M' := tMem B I J) xl1753 rfl rfl ?_
  refine sw_0 (pc' := 1755) (L' := lwL m) (st' := [.int (Int32.ofNat m), .retAddr 0, .ref 0]) (M' := tMem B I J) xl1754 rfl rfl ?_
  refine sw_0 (pc' := 1756) (L' := lwL m) (st' := [.int 1, .int (Int32.ofNat m), .retAddr 0, .ref 0]) (M' := tMem B I J) xl1755 rfl rfl ?_
  refine sw_0 (pc' := 1757) (L' := lwL m) (st' := [.int (Int32.ofNat m + 1), .retAddr 0, .ref 0]) (M' := tMem B I J) xl1756 rfl rfl ?_
  refine sw_ial xl1757 (show Int32.ofNat m + 1 = Int32.ofNat (m + 1) from oi_add (b := 1)) (by omega) hl ?_
  refine sw_0 (pc' := 1759) (L' := lwL m) (st' := [.retAddr 0, .int (sc.getD (m + 1) 0), .ref 0]) (M' := tMem B I J) xl1758 rfl rfl ?_
  refine sw_0 (pc' := 1760) (L' := lwL m) (st' := [.int (Int32.ofNat m), .retAddr 0, .int (sc.getD (m + 1) 0), .ref 0]) (M' := tMem B I J) xl1759 rfl rfl ?_
  refine sw_0 (pc' := 1761) (L' := lwL m) (st' := [.int 2, .int (Int32.ofNat m), .retAddr 0, .int (sc.getD (m + 1) 0), .ref 0]) (M' := tMem B I J) xl1760 rfl rfl ?_
  refine sw_0 (pc' := 1762) (L' := lwL m) (st' := [.int (Int32.ofNat m + 2), .retAddr 0, .int (sc.getD (m + 1) 0), .ref 0]) (M' := tMem B I J) xl1761 rfl rfl ?_
  refine sw_ial xl1762 (show Int32.ofNat m + 2 = Int32.ofNat (m + 2) from oi_add (b := 2)) (by omega) hl ?_
  refine lw_call0 (c := nc209) (as := [.ref 0, .int (sc.getD (m + 1) 0), .int (sc.getD (m + 2) 0)]) (rest := []) (r' := (xt_183, 8, 3)) xl1763 rfl rfl (lw_recv (c := 11) (pB_nok rfl hO) rfl rfl rfl) rfl rfl rfl nN209 hO ⟨_, _, rfl, kv_argr 0, _, _, rfl, kv_arg _, _, _, rfl, kv_arg _, rfl⟩ (fun q hq => by cases hq) (fun v1 B1 I1 J1 hO1 hA1 hp1 hv1 => ?_)
  obtain ⟨x1, rfl, -, -⟩ := kvo_i hv1
  have h51 : npI [(186, 5, 0, 999)] I1 := npI_cg h5 (hA1.1 186 5 rfl).1
  refine sw_0 (pc' := 1767) (L' := lwL m) (st' := []) (M' := tMem B1 I1 J1) xl1766 rfl rfl ?_
  refine sw_0 (pc' := 1768) (L' := lwL m) (st' := [.ref 185]) (M' := tMem B1 I1 J1) xl1767 rfl rfl ?_
  refine sw_0 (pc' := 1769) (L' := lwL m) (st' := [.retAddr 0, .ref 185]) (M' := tMem B1 I1 J1) xl1768 rfl rfl ?_
  refine sw_0 (pc' := 1770) (L' := lwL m) (st' := [.int (Int32.ofNat m), .retAddr 0, .ref 185]) (M' := tMem B1 I1 J1) xl1769 rfl rfl ?_
  refine sw_0 (pc' := 1771) (L' := lwL m) (st' := [.int 1, .int (Int32.ofNat m), .retAddr 0, .ref 185]) (M' := tMem B1 I1 J1) xl1770 rfl rfl ?_
  refine sw_0 (pc' := 1772) (L' := lwL m) (st' := [.int (Int32.ofNat m + 1), .retAddr 0, .ref 185]) (M' := tMem B1 I1 J1) xl1771 rfl rfl ?_
  refine sw_ial xl1772 (show Int32.ofNat m + 1 = Int32.ofNat (m + 1) from oi_add (b := 1)) (by omega) hl ?_
  refine sw_0 (pc' := 1774) (L' := lwL m) (st' := [.retAddr 0, .int (sc.getD (m + 1) 0), .ref 185]) (M' := tMem B1 I1 J1) xl1773 rfl rfl ?_
  refine sw_0 (pc' := 1775) (L' := lwL m) (st' := [.int (Int32.ofNat m), .retAddr 0, .int (sc.getD (m + 1) 0), .ref 185]) (M' := tMem B1 I1 J1) xl1774 rfl rfl ?_
  refine sw_0 (pc' := 1776) (L' := lwL m) (st' := [.int 2, .int (Int32.ofNat m), .retAddr 0, .int (sc.getD (m + 1) 0), .ref 185]) (M' := tMem B1 I1 J1) xl1775 rfl rfl ?_
  refine sw_0 (pc' := 1777) (L' := lwL m) (st' := [.int (Int32.ofNat m + 2), .retAddr 0, .int (sc.getD (m + 1) 0), .ref 185]) (M' := tMem B1 I1 J1) xl1776 rfl rfl ?_
  refine sw_ial xl1777 (show Int32.ofNat m + 2 = Int32.ofNat (m + 2) from oi_add (b := 2)) (by omega) hl ?_
  refine lw_call0 (c := nc211) (as := [.ref 185, .int (sc.getD (m + 1) 0), .int (sc.getD (m + 2) 0)]) (rest := []) (r' := (xt_324, 8, 3)) xl1778 rfl rfl (lw_recv (c := 12) (pB_nok rfl hO1) rfl rfl rfl) rfl rfl rfl nN211 hO1 ⟨_, _, rfl, kv_argr 185, _, _, rfl, kv_arg _, _, _, rfl, kv_arg _, rfl⟩ h51 (fun v2 B2 I2 J2 hO2 hA2 hp2 hv2 => ?_)
  obtain ⟨x2, rfl, -, -⟩ := kvo_i hv2
  have h52 : npI [(186, 5, 0, 999)] I2 := hp2
  have hR1 := R7_ag hA1 (fun _ => ⟨rfl, rfl, rfl, rfl⟩) hR
  have hR2 := R7_ag hA2 (fun _ => ⟨rfl, rfl, rfl, rfl⟩) hR1
  refine sw_0 (pc' := 1782) (L' := lwL m) (st' := []) (M' := tMem B2 I2 J2) xl1781 rfl rfl ?_
  refine sw_0 (pc' := 2214) (L' := lwL m) (st' := []) (M' := tMem B2 I2 J2) xl1782 rfl rfl ?_
  exact hb B2 I2 J2 ⟨hO2, h52, hR2⟩ ⟨hA2.2.2.1.trans hA1.2.2.1, hA2.2.2.2.trans hA1.2.2.2⟩
set_option maxRecDepth 100000 in
theorem lwc47 {sc : List Int32} {B : xM} {I : tI} {J : tJ} {m : Nat} {Q : Option Value → xM → Prop} (hm : m + 6 ≤ sc.length) (hl : sc.length ≤ 3072) (hI : LInv R7 sc B I J) (hb : ∀ B' I' J', LInv R7 sc B' I' J' → kSz B B' → sw sc rLawX 2214 (lwL m) [] (tMem B' I' J') Q) : sw sc rLawX 1785 (lwL m) [] (tMem B I J) Q := by
  obtain ⟨hO, h5, hR⟩ := hI
  refine sw_0 (pc' := 1786) (L' := lwL m) (st' := [.ref 0]) (M' := tMem B I J) xl1785 rfl rfl ?_
  refine sw_0 (pc' := 1787) (L' := lwL m) (st' := [.retAddr 0, .ref 0]) (M' := tMem B I J) xl1786 rfl rfl ?_
  refine sw_0 (pc' := 1788) (L' := lwL m) (st' := [.int (Int32.ofNat m), .retAddr 0, .ref 0]) (M' := tMem B I J) xl1787 rfl rfl ?_
  refine sw_0 (pc' := 1789) (L' := lwL m) (st' := [.int 1, .int (Int32.ofNat m), .retAddr 0, .ref 0]) (M' := tMem B I J) xl1788 rfl rfl ?_
  refine sw_0 (pc' := 1790) (L' := lwL m) (st' := [.int (Int32.ofNat m + 1), .retAddr 0, .ref 0]) (M' := tMem B I J) xl1789 rfl rfl ?_
  refine sw_ial xl1790 (show Int32.ofNat m + 1 = Int32.ofNat (m + 1) from oi_add (b := 1)) (by omega) hl ?_
  refine lw_call0 (c := nc213) (as := [.ref 0, .int (sc.getD (m + 1) 0)]) (rest := []) (r' := (xt_184, 2, 1)) xl1791 rfl rfl (lw_recv (c := 11) (pB_nok rfl hO) rfl rfl rfl) rfl rfl rfl nN213 hO ⟨_, _, rfl, kv_argr 0, _, _, rfl, kv_arg _, rfl⟩ (fun q hq => by cases hq) (fun v1 B1 I1 J1 hO1 hA1 hp1 hv1 => ?_)
  obtain ⟨x1, rfl, -, -⟩ := kvo_i hv1
  have h51 : npI [(186, 5, 0, 999)] I1 := npI_cg h5 (hA1.1 186 5 rfl).1
  refine sw_0 (pc' := 1795) (L' := lwL m) (st' := []) (M' := tMem B1 I1 J1) xl1794 rfl rfl ?_
  refine sw_0 (pc' := 1796) (L' := lwL m) (st' := [.ref 185]) (M' := tMem B1 I1 J1) xl1795 rfl rfl ?_
  refine sw_0 (pc' := 1797) (L' := lwL m) (st' := [.retAddr 0, .ref 185]) (M' := tMem B1 I1 J1) xl1796 rfl rfl ?_
  refine sw_0 (pc' := 1798) (L' := lwL m) (st' := [.int (Int32.ofNat m), .retAddr 0, .ref 185]) (M' := tMem B1 I1 J1) xl1797 rfl rfl ?_
  refine sw_0 (pc' := 1799) (L' := lwL m) (st' := [.int 1, .int (Int32.ofNat m), .retAddr 0, .ref 185]) (M' := tMem B1 I1 J1) xl1798 rfl rfl ?_
  refine sw_0 (pc' := 1800) (L' := lwL m) (st' := [.int (Int32.ofNat m + 1), .retAddr 0, .ref 185]) (M' := tMem B1 I1 J1) xl1799 rfl rfl ?_
  refine sw_ial xl1800 (show Int32.ofNat m + 1 = Int32.ofNat (m + 1) from oi_add (b := 1)) (by omega) hl ?_
  refine lw_call0 (c := nc215) (as := [.ref 185, .int (sc.getD (m + 1) 0)]) (rest := []) (r' := (xt_326, 2, 1)) xl1801 rfl rfl (lw_recv (c := 12) (pB_nok rfl hO1) rfl rfl rfl) rfl rfl rfl nN215 hO1 ⟨_, _, rfl, kv_argr 185, _, _, rfl, kv_arg _, rfl⟩ h51 (fun v2 B2 I2 J2 hO2 hA2 hp2 hv2 => ?_)
  obtain ⟨x2, rfl, -, -⟩ := kvo_i hv2
  have h52 : npI [(186, 5, 0, 999)] I2 := hp2
  have hR1 := R7_ag hA1 (fun _ => ⟨rfl, rfl, rfl, rfl⟩) hR
  have hR2 := R7_ag hA2 (fun _ => ⟨rfl, rfl, rfl, rfl⟩) hR1
  refine sw_0 (pc' := 1805) (L' := lwL m) (st' := []) (M' := tMem B2 I2 J2) xl1804 rfl rfl ?_
  refine sw_0 (pc' := 2214) (L' := lwL m) (st' := []) (M' := tMem B2 I2 J2) xl1805 rfl rfl ?_
  exact hb B2 I2 J2 ⟨hO2, h52, hR2⟩ ⟨hA2.2.2.1.trans hA1.2.2.1, hA2.2.2.2.trans hA1.2.2.2⟩
set_option maxRecDepth 100000 in
theorem lwc48 {sc : List Int32} {B : xM} {I : tI} {J : tJ} {m : Nat} {Q : Option Value → xM → Prop} (hm : m + 6 ≤ sc.length) (hl : sc.length ≤ 3072) (hI : LInv R7 sc B I J) (hb : ∀ B' I' J', LInv R7 sc B' I' J' → kSz B B' → sw sc rLawX 2214 (lwL m) [] (tMem B' I' J') Q) : sw sc rLawX 1808 (lwL m) [] (tMem B I J) Q := by
  obtain ⟨hO, h5, hR⟩ := hI
  refine sw_0 (pc' := 1809) (L' := lwL m) (st' := [.ref 0]) (M' := tMem B I J) xl1808 rfl rfl ?_
  refine sw_0 (pc' := 1810) (L' := lwL m) (st' := [.retAddr 0, .ref 0]) (M' := tMem B I J) xl1809 rfl rfl ?_
  refine sw_0 (pc' := 1811) (L' := lwL m) (st' := [.int (Int32.ofNat m), .retAddr 0, .ref 0]) (M' := tMem B I J) xl1810 rfl rfl ?_
  refine sw_0 (pc' := 1812) (L' := lwL m) (st' := [.int 1, .int (Int32.ofNat m), .retAddr 0, .ref 0]) (M' := tMem B I J) xl1811 rfl rfl ?_
  refine sw_0 (pc' := 1813) (L' := lwL m) (st' := [.int (Int32.ofNat m + 1), .retAddr 0, .ref 0]) (M' := tMem B I J) xl1812 rfl rfl ?_
  refine sw_ial xl1813 (show Int32.ofNat m + 1 = Int32.ofNat (m + 1) from oi_add (b := 1)) (by omega) hl ?_
  refine lw_call0 (c := nc216) (as := [.ref 0, .int (sc.getD (m + 1) 0)]) (rest := []) (r' := (xt_185, 5, 1)) xl1814 rfl rfl (lw_recv (c := 11) (pB_nok rfl hO) rfl rfl rfl) rfl rfl rfl nN216 hO ⟨_, _, rfl, kv_argr 0, _, _, rfl, kv_arg _, rfl⟩ (fun q hq => by cases hq) (fun v1 B1 I1 J1 hO1 hA1 hp1 hv1 => ?_)
  obtain ⟨x1, rfl, -, -⟩ := kvo_i hv1
  have h51 : npI [(186, 5, 0, 999)] I1 := npI_cg h5 (hA1.1 186 5 rfl).1
  refine sw_0 (pc' := 1818) (L' := lwL m) (st' := []) (M' := tMem B1 I1 J1) xl1817 rfl rfl ?_
  refine sw_0 (pc' := 1819) (L' := lwL m) (st' := [.ref 185]) (M' := tMem B1 I1 J1) xl1818 rfl rfl ?_
  refine sw_0 (pc' := 1820) (L' := lwL m) (st' := [.retAddr 0, .ref 185]) (M' := tMem B1 I1 J1) xl1819 rfl rfl ?_
  refine sw_0 (pc' := 1821) (L' := lwL m) (st' := [.int (Int32.ofNat m), .retAddr 0, .ref 185]) (M' := tMem B1 I1 J1) xl1820 rfl rfl ?_
  refine sw_0 (pc' := 1822) (L' := lwL m) (st' := [.int 1, .int (Int32.ofNat m), .retAddr 0, .ref 185]) (M' := tMem B1 I1 J1) xl1821 rfl rfl ?_
  refine sw_0 (pc' := 1823) (L' := lwL m) (st' := [.int (Int32.ofNat m + 1), .retAddr 0, .ref 185]) (M' := tMem B1 I1 J1) xl1822 rfl rfl ?_
  refine sw_ial xl1823 (show Int32.ofNat m + 1 = Int32.ofNat (m + 1) from oi_add (b := 1)) (by omega) hl ?_
  refine lw_call0 (c := nc217) (as := [.ref 185, .int (sc.getD (m + 1) 0)]) (rest := []) (r' := (xt_327, 5, 1)) xl1824 rfl rfl (lw_recv (c := 12) (pB_nok rfl hO1) rfl rfl rfl) rfl rfl rfl nN217 hO1 ⟨_, _, rfl, kv_argr 185, _, _, rfl, kv_arg _, rfl⟩ h51 (fun v2 B2 I2 J2 hO2 hA2 hp2 hv2 => ?_)
  obtain ⟨x2, rfl, -, -⟩ := kvo_i hv2
  have h52 : npI [(186, 5, 0, 999)] I2 := hp2
  have hR1 := R7_ag hA1 (fun _ => ⟨rfl, rfl, rfl, rfl⟩) hR
  have hR2 := R7_ag hA2 (fun _ => ⟨rfl, rfl, rfl, rfl⟩) hR1
  refine sw_0 (pc' := 1828) (L' := lwL m) (st' := []) (M' := tMem B2 I2 J2) xl1827 rfl rfl ?_
  refine sw_0 (pc' := 2214) (L' := lwL m) (st' := []) (M' := tMem B2 I2 J2) xl1828 rfl rfl ?_
  exact hb B2 I2 J2 ⟨hO2, h52, hR2⟩ ⟨hA2.2.2.1.trans hA1.2.2.1, hA2.2.2.2.trans hA1.2.2.2⟩
set_option maxRecDepth 100000 in
theorem lwc49 {sc : List Int32} {B : xM} {I : tI} {J : tJ} {m : Nat} {Q : Option Value → xM → Prop} (hm : m + 6 ≤ sc.length) (hl : sc.length ≤ 3072) (hI : LInv R7 sc B I J) (hb : ∀ B' I' J', LInv R7 sc B' I' J' → kSz B B' → sw sc rLawX 2214 (lwL m) [] (tMem B' I' J') Q) : sw sc rLawX 1831 (lwL m) [] (tMem B I J) Q := by
  obtain ⟨hO, h5, hR⟩ := hI
  refine sw_0 (pc' := 1832) (L' := lwL m) (st' := [.ref 0]) (M' := tMem B I J) xl1831 rfl rfl ?_
  refine sw_0 (pc' := 1833) (L' := lwL m) (st' := [.retAddr 0, .ref 0]) (M' := tMem B I J) xl1832 rfl rfl ?_
  refine sw_0 (pc' := 1834) (L' := lwL m) (st' := [.int (Int32.ofNat m), .retAddr 0, .ref 0]) (M' := tMem B I J) xl1833 rfl rfl ?_
  refine sw_0 (pc' := 1835) (L' := lwL m) (st' := [.int 1, .int (Int32.ofNat m), .retAddr 0, .ref 0]) (M' := tMem B I J) xl1834 rfl rfl ?_
  refine sw_0 (pc' := 1836) (L' := lwL m) (st' := [.int (Int32.ofNat m + 1), .retAddr 0, .ref 0]) (M' := tMem B I J) xl1835 rfl rfl ?_
  refine sw_ial xl1836 (show Int32.ofNat m + 1 = Int32.ofNat (m + 1) from oi_add (b := 1)) (by omega) hl ?_
  refine sw_0 (pc' := 1838) (L' := lwL m) (st' := [.retAddr 0, .int (sc.getD (m + 1) 0), .ref 0]) (M' := tMem B I J) xl1837 rfl rfl ?_
  refine sw_0 (pc' := 1839) (L' := lwL m) (st' := [.int (Int32.ofNat m), .retAddr 0, .int (sc.getD (m + 1) 0), .ref 0]) (M' := tMem B I J) xl1838 rfl rfl ?_
  refine sw_0 (pc' := 1840) (L' := lwL m) (st' := [.int 2, .int (Int32.ofNat m), .retAddr 0, .int (sc.getD (m + 1) 0), .ref 0]) (M' := tMem B I J) xl1839 rfl rfl ?_
  refine sw_0 (pc' := 1841) (L' := lwL m) (st' := [.int (Int32.ofNat m + 2), .retAddr 0, .int (sc.getD (m + 1) 0), .ref 0]) (M' := tMem B I J) xl1840 rfl rfl ?_
  refine sw_ial xl1841 (show Int32.ofNat m + 2 = Int32.ofNat (m + 2) from oi_add (b := 2)) (by omega) hl ?_
  refine sw_0 (pc' := 1843) (L' := lwL m) (st' := [.retAddr 0, .int (sc.getD (m + 2) 0), .int (sc.getD (m + 1) 0), .ref 0]) (M' := tMem B I J) xl1842 rfl rfl ?_
  refine sw_0 (pc' := 1844) (L' := lwL m) (st' := [.int (Int32.ofNat m), .retAddr 0, .int (sc.getD (m + 2) 0), .int (sc.getD (m + 1) 0), .ref 0]) (M' := tMem B I J) xl1843 rfl rfl ?_
  refine sw_0 (pc' := 1845) (L' := lwL m) (st' := [.int 3, .int (Int32.ofNat m), .retAddr 0, .int (sc.getD (m + 2) 0), .int (sc.getD (m + 1) 0), .ref 0]) (M' := tMem B I J) xl1844 rfl rfl ?_
  refine sw_0 (pc' := 1846) (L' := lwL m) (st' := [.int (Int32.ofNat m + 3), .retAddr 0, .int (sc.getD (m + 2) 0), .int (sc.getD (m + 1) 0), .ref 0]) (M' := tMem B I J) xl1845 rfl rfl ?_
  refine sw_ial xl1846 (show Int32.ofNat m + 3 = Int32.ofNat (m + 3) from oi_add (b := 3)) (by omega) hl ?_
  refine lw_call0 (c := nc226) (as := [.ref 0, .int (sc.getD (m + 1) 0), .int (sc.getD (m + 2) 0), .int (sc.getD (m + 3) 0)]) (rest := []) (r' := (xt_187, 5, 1)) xl1847 rfl rfl (lw_recv (c := 11) (pB_nok rfl hO) rfl rfl rfl) rfl rfl rfl nN226 hO ⟨_, _, rfl, kv_argr 0, _, _, rfl, kv_arg _, _, _, rfl, kv_arg _, _, _, rfl, kv_arg _, rfl⟩ (fun q hq => by cases hq) (fun v1 B1 I1 J1 hO1 hA1 hp1 hv1 => ?_)
  obtain ⟨x1, rfl, -, -⟩ := kvo_i hv1
  have h51 : npI [(186, 5, 0, 999)] I1 := npI_cg h5 (hA1.1 186 5 rfl).1
  refine sw_0 (pc' := 1851) (L' := lwL m) (st' := []) (M' := tMem B1 I1 J1) xl1850 rfl rfl ?_
  refine sw_0 (pc' := 1852) (L' := lwL m) (st' := [.ref 185]) (M' := tMem B1 I1 J1) xl1851 rfl rfl ?_
  refine sw_0 (pc' := 1853) (L' := lwL m) (st' := [.retAddr 0, .ref 185]) (M' := tMem B1 I1 J1) xl1852 rfl rfl ?_
  refine sw_0 (pc' := 1854) (L' := lwL m) (st' := [.int (Int32.ofNat m), .retAddr 0, .ref 185]) (M' := tMem B1 I1 J1) xl1853 rfl rfl ?_
  refine sw_0 (pc' := 1855) (L' := lwL m) (st' := [.int 1, .int (Int32.ofNat m), .retAddr 0, .ref 185]) (M' := tMem B1 I1 J1) xl1854 rfl rfl ?_
  refine sw_0 (pc' := 1856) (L' := lwL m) (st' := [.int (Int32.ofNat m + 1), .retAddr 0, .ref 185]) (M' := tMem B1 I1 J1) xl1855 rfl rfl ?_
  refine sw_ial xl1856 (show Int32.ofNat m + 1 = Int32.ofNat (m + 1) from oi_add (b := 1)) (by omega) hl ?_
  refine sw_0 (pc' := 1858) (L' := lwL m) (st' := [.retAddr 0, .int (sc.getD (m + 1) 0), .ref 185]) (M' := tMem B1 I1 J1) xl1857 rfl rfl ?_
  refine sw_0 (pc' := 1859) (L' := lwL m) (st' := [.int (Int32.ofNat m), .retAddr 0, .int (sc.getD (m + 1) 0), .ref 185]) (M' := tMem B1 I1 J1) xl1858 rfl rfl ?_
  refine sw_0 (pc' := 1860) (L' := lwL m) (st' := [.int 2, .int (Int32.ofNat m), .retAddr 0, .int (sc.getD (m + 1) 0), .ref 185]) (M' := tMem B1 I1 J1) xl1859 rfl rfl ?_
  refine sw_0 (pc' := 1861) (L' := lwL m) (st' := [.int (Int32.ofNat m + 2), .retAddr 0, .int (sc.getD (m + 1) 0), .ref 185]) (M' := tMem B1 I1 J1) xl1860 rfl rfl ?_
  refine sw_ial xl1861 (show Int32.ofNat m + 2 = Int32.ofNat (m + 2) from oi_add (b := 2)) (by omega) hl ?_
  refine sw_0 (pc' := 1863) (L' := lwL m) (st' := [.retAddr 0, .int (sc.getD (m + 2) 0), .int (sc.getD (m + 1) 0), .ref 185]) (M' := tMem B1 I1 J1) xl1862 rfl rfl ?_
  refine sw_0 (pc' := 1864) (L' := lwL m) (st' := [.int (Int32.ofNat m), .retAddr 0, .int (sc.getD (m + 2) 0), .int (sc.getD (m + 1) 0), .ref 185]) (M' := tMem B1 I1 J1) xl1863 rfl rfl ?_
  refine sw_0 (pc' := 1865) (L' := lwL m) (st' := [.int 3, .int (Int32.ofNat m), .retAddr 0, .int (sc.getD (m + 2) 0), .int (sc.getD (m + 1) 0), .ref 185]) (M' := tMem B1 I1 J1) xl1864 rfl rfl ?_
  refine sw_0 (pc' := 1866) (L' := lwL m) (st' := [.int (Int32.ofNat m + 3), .retAddr 0, .int (sc.getD (m + 2) 0), .int (sc.getD (m + 1) 0), .ref 185]) (M' := tMem B1 I1 J1) xl1865 rfl rfl ?_
  refine sw_ial xl1866 (show Int32.ofNat m + 3 = Int32.ofNat (m + 3) from oi_add (b := 3)) (by omega) hl ?_
  refine lw_call0 (c := nc233) (as := [.ref 185, .int (sc.getD (m + 1) 0), .int (sc.getD (m + 2) 0), .int (sc.getD (m + 3) 0)]) (rest := []) (r' := (xt_332, 5, 1)) xl1867 rfl rfl (lw_recv (c := 12) (pB_nok rfl hO1) rfl rfl rfl) rfl rfl rfl nN233 hO1 ⟨_, _, rfl, kv_argr 185, _, _, rfl, kv_arg _, _, _, rfl, kv_arg _, _, _, rfl, kv_arg _, rfl⟩ h51 (fun v2 B2 I2 J2 hO2 hA2 hp2 hv2 => ?_)
  obtain ⟨x2, rfl, -, -⟩ := kvo_i hv2
  have h52 : npI [(186, 5, 0, 999)] I2 := hp2
  have hR1 := R7_ag hA1 (fun _ => ⟨rfl, rfl, rfl, rfl⟩) hR
  have hR2 := R7_ag hA2 (fun _ => ⟨rfl, rfl, rfl, rfl⟩) hR1
  refine sw_0 (pc' := 1871) (L' := lwL m) (st' := []) (M' := tMem B2 I2 J2) xl1870 rfl rfl ?_
  refine sw_0 (pc' := 2214) (L' := lwL m) (st' := []) (M' := tMem B2 I2 J2) xl1871 rfl rfl ?_
  exact hb B2 I2 J2 ⟨hO2, h52, hR2⟩ ⟨hA2.2.2.1.trans hA1.2.2.1, hA2.2.2.2.trans hA1.2.2.2⟩
set_option maxRecDepth 100000 in
theorem lwc50 {sc : List Int32} {B : xM} {I : tI} {J : tJ} {m : Nat} {Q : Option Value → xM → Prop} (hm : m + 6 ≤ sc.length) (hl : sc.length ≤ 3072) (hI : LInv R7 sc B I J) (hb : ∀ B' I' J', LInv R7 sc B' I' J' → kSz B B' → sw sc rLawX 2214 (lwL m) [] (tMem B' I' J') Q) : sw sc rLawX 1874 (lwL m) [] (tMem B I J) Q := by
  obtain ⟨hO, h5, hR⟩ := hI
  refine sw_0 (pc' := 1875) (L' := lwL m) (st' := [.ref 0]) (M' := tMem B I J) xl1874 rfl rfl ?_
  refine sw_0 (pc' := 1876) (L' := lwL m) (st' := [.retAddr 0, .ref 0]) (M' := tMem B I J) xl1875 rfl rfl ?_
  refine sw_0 (pc' := 1877) (L' := lwL m) (st' := [.int (Int32.ofNat m), .retAddr 0, .ref 0]) (M' := tMem B I J) xl1876 rfl rfl ?_
  refine sw_0 (pc' := 1878) (L' := lwL m) (st' := [.int 1, .int (Int32.ofNat m), .retAddr 0, .ref 0]) (M' := tMem B I J) xl1877 rfl rfl ?_
  refine sw_0 (pc' := 1879) (L' := lwL m) (st' := [.int (Int32.ofNat m + 1), .retAddr 0, .ref 0]) (M' := tMem B I J) xl1878 rfl rfl ?_
  refine sw_ial xl1879 (show Int32.ofNat m + 1 = Int32.ofNat (m + 1) from oi_add (b := 1)) (by omega) hl ?_
  refine sw_0 (pc' := 1881) (L' := lwL m) (st' := [.retAddr 0, .int (sc.getD (m + 1) 0), .ref 0]) (M' := tMem B I J) xl1880 rfl rfl ?_
  refine sw_0 (pc' := 1882) (L' := lwL m) (st' := [.int (Int32.ofNat m), .retAddr 0, .int (sc.getD (m + 1) 0), .ref 0]) (M' := tMem B I J) xl1881 rfl rfl ?_
  refine sw_0 (pc' := 1883) (L' := lwL m) (st' := [.int 2, .int (Int32.ofNat m), .retAddr 0, .int (sc.getD (m + 1) 0), .ref 0]) (M' := tMem B I J) xl1882 rfl rfl ?_
  refine sw_0 (pc' := 1884) (L' := lwL m) (st' := [.int (Int32.ofNat m + 2), .retAddr 0, .int (sc.getD (m + 1) 0), .ref 0]) (M' := tMem B I J) xl1883 rfl rfl ?_
  refine sw_ial xl1884 (show Int32.ofNat m + 2 = Int32.ofNat (m + 2) from oi_add (b := 2)) (by omega) hl ?_
  refine sw_0 (pc' := 1886) (L' := lwL m) (st' := [.retAddr 0, .int (sc.getD (m + 2) 0), .int (sc.getD (m + 1) 0), .ref 0]) (M' := tMem B I J) xl1885 rfl rfl ?_
  refine sw_0 (pc' := 1887) (L' := lwL m) (st' := [.int (Int32.ofNat m), .retAddr 0, .int (sc.getD (m + 2) 0), .int (sc.getD (m + 1) 0), .ref 0]) (M' := tMem B I J) xl1886 rfl rfl ?_
  refine sw_0 (pc' := 1888) (L' := lwL m) (st' := [.int 3, .int (Int32.ofNat m), .retAddr 0, .int (sc.getD (m + 2) 0), .int (sc.getD (m + 1) 0), .ref 0]) (M' := tMem B I J) xl1887 rfl rfl ?_
  refine sw_0 (pc' := 1889) (L' := lwL m) (st' := [.int (Int32.ofNat m + 3), .retAddr 0, .int (sc.getD (m + 2) 0), .int (sc.getD (m + 1) 0), .ref 0]) (M' := tMem B I J) xl1888 rfl rfl ?_
  refine sw_ial xl1889 (show Int32.ofNat m + 3 = Int32.ofNat (m + 3) from oi_add (b := 3)) (by omega) hl ?_
  refine sw_0 (pc' := 1891) (L' := lwL m) (st' := [.retAddr 0, .int (sc.getD (m + 3) 0), .int (sc.getD (m + 2) 0), .int (sc.getD (m + 1) 0), .ref 0]) (M' := tMem B I J) xl1890 rfl rfl ?_
  refine sw_0 (pc' := 1892) (L' := lwL m) (st' := [.int (Int32.ofNat m), .retAddr 0, .int (sc.getD (m + 3) 0), .int (sc.getD (m + 2) 0), .int (sc.getD (m + 1) 0), .ref 0]) (M' := tMem B I J) xl1891 rfl rfl ?_
  refine sw_0 (pc' := 1893) (L' := lwL m) (st' := [.int 4, .int (Int32.ofNat m), .retAddr 0, .int (sc.getD (m + 3) 0), .int (sc.getD (m + 2) 0), .int (sc.getD (m + 1) 0), .ref 0]) (M' := tMem B I J) xl1892 rfl rfl ?_
  refine sw_0 (pc' := 1894) (L' := lwL m) (st' := [.int (Int32.ofNat m + 4), .retAddr 0, .int (sc.getD (m + 3) 0), .int (sc.getD (m + 2) 0), .int (sc.getD (m + 1) 0), .ref 0]) (M' := tMem B I J) xl1893 rfl rfl ?_
  refine sw_ial xl1894 (show Int32.ofNat m + 4 = Int32.ofNat (m + 4) from oi_add (b := 4)) (by omega) hl ?_
  refine lw_call0 (c := nc234) (as := [.ref 0, .int (sc.getD (m + 1) 0), .int (sc.getD (m + 2) 0), .int (sc.getD (m + 3) 0), .int (sc.getD (m + 4) 0)]) (rest := []) (r' := (xt_188, 6, 1)) xl1895 rfl rfl (lw_recv (c := 11) (pB_nok rfl hO) rfl rfl rfl) rfl rfl rfl nN234 hO ⟨_, _, rfl, kv_argr 0, _, _, rfl, kv_arg _, _, _, rfl, kv_arg _, _, _, rfl, kv_arg _, _, _, rfl, kv_arg _, rfl⟩ (fun q hq => by cases hq) (fun v1 B1 I1 J1 hO1 hA1 hp1 hv1 => ?_)
  obtain ⟨x1, rfl, -, -⟩ := kvo_i hv1
  have h51 : npI [(186, 5, 0, 999)] I1 := npI_cg h5 (hA1.1 186 5 rfl).1
  refine sw_0 (pc' := 1899) (L' := lwL m) (st' := []) (M' := tMem B1 I1 J1) xl1898 rfl rfl ?_
  refine sw_0 (pc' := 1900) (L' := lwL m) (st' := [.ref 185]) (M' := tMem B1 I1 J1) xl1899 rfl rfl ?_
  refine sw_0 (pc' := 1901) (L' := lwL m) (st' := [.retAddr 0, .ref 185]) (M' := tMem B1 I1 J1) xl1900 rfl rfl ?_
  refine sw_0 (pc' := 1902) (L' := lwL m) (st' := [.int (Int32.ofNat m), .retAddr 0, .ref 185]) (M' := tMem B1 I1 J1) xl1901 rfl rfl ?_
  refine sw_0 (pc' := 1903) (L' := lwL m) (st' := [.int 1, .int (Int32.ofNat m), .retAddr 0, .ref 185]) (M' := tMem B1 I1 J1) xl1902 rfl rfl ?_
  refine sw_0 (pc' := 1904) (L' := lwL m) (st' := [.int (Int32.ofNat m + 1), .retAddr 0, .ref 185]) (M' := tMem B1 I1 J1) xl1903 rfl rfl ?_
  refine sw_ial xl1904 (show Int32.ofNat m + 1 = Int32.ofNat (m + 1) from oi_add (b := 1)) (by omega) hl ?_
  refine sw_0 (pc' := 1906) (L' := lwL m) (st' := [.retAddr 0, .int (sc.getD (m + 1) 0), .ref 185]) (M' := tMem B1 I1 J1) xl1905 rfl rfl ?_
  refine sw_0 (pc' := 1907) (L' := lwL m) (st' := [.int (Int32.ofNat m), .retAddr 0, .int (sc.getD (m + 1) 0), .ref 185]) (M' := tMem B1 I1 J1) xl1906 rfl rfl ?_
  refine sw_0 (pc' := 1908) (L' := lwL m) (st' := [.int 2, .int (Int32.ofNat m), .retAddr 0, .int (sc.getD (m + 1) 0), .ref 185]) (M' := tMem B1 I1 J1) xl1907 rfl rfl ?_
  refine sw_0 (pc' := 1909) (L' := lwL m) (st' := [.int (Int32.ofNat m + 2), .retAddr 0, .int (sc.getD (m + 1) 0), .ref 185]) (M' := tMem B1 I1 J1) xl1908 rfl rfl ?_
  refine sw_ial xl1909 (show Int32.ofNat m + 2 = Int32.ofNat (m + 2) from oi_add (b := 2)) (by omega) hl ?_
  refine sw_0 (pc' := 1911) (L' := lwL m) (st' := [.retAddr 0, .int (sc.getD (m + 2) 0), .int (sc.getD (m + 1) 0), .ref 185]) (M' := tMem B1 I1 J1) xl1910 rfl rfl ?_
  refine sw_0 (pc' := 1912) (L' := lwL m) (st' := [.int (Int32.ofNat m), .retAddr 0, .int (sc.getD (m + 2) 0), .int (sc.getD (m + 1) 0), .ref 185]) (M' := tMem B1 I1 J1) xl1911 rfl rfl ?_
  refine sw_0 (pc' := 1913) (L' := lwL m) (st' := [.int 3, .int (Int32.ofNat m), .retAddr 0, .int (sc.getD (m + 2) 0), .int (sc.getD (m + 1) 0), .ref 185]) (M' := tMem B1 I1 J1) xl1912 rfl rfl ?_
  refine sw_0 (pc' := 1914) (L' := lwL m) (st' := [.int (Int32.ofNat m + 3), .retAddr 0, .int (sc.getD (m + 2) 0), .int (sc.getD (m + 1) 0), .ref 185]) (M' := tMem B1 I1 J1) xl1913 rfl rfl ?_
  refine sw_ial xl1914 (show Int32.ofNat m + 3 = Int32.ofNat (m + 3) from oi_add (b := 3)) (by omega) hl ?_
  refine sw_0 (pc' := 1916) (L' := lwL m) (st' := [.retAddr 0, .int (sc.getD (m + 3) 0), .int (sc.getD (m + 2) 0), .int (sc.getD (m + 1) 0), .ref 185]) (M' := tMem B1 I1 J1) xl1915 rfl rfl ?_
  refine sw_0 (pc' := 1917) (L' := lwL m) (st' := [.int (Int32.ofNat m), .retAddr 0, .int (sc.getD (m + 3) 0), .int (sc.getD (m + 2) 0), .int (sc.getD (m + 1) 0), .ref 185]) (M' := tMem B1 I1 J1) xl1916 rfl rfl ?_
  refine sw_0 (pc' := 1918) (L' := lwL m) (st' := [.int 4, .int (Int32.ofNat m), .retAddr 0, .int (sc.getD (m + 3) 0), .int (sc.getD (m + 2) 0), .int (sc.getD (m + 1) 0), .ref 185]) (M' := tMem B1 I1 J1) xl1917 rfl rfl ?_
  refine sw_0 (pc' := 1919) (L' := lwL m) (st' := [.int (Int32.ofNat m + 4), .retAddr 0, .int (sc.getD (m + 3) 0), .int (sc.getD (m + 2) 0), .int (sc.getD (m + 1) 0), .ref 185]) (M' := tMem B1 I1 J1) xl1918 rfl rfl ?_
  refine sw_ial xl1919 (show Int32.ofNat m + 4 = Int32.ofNat (m + 4) from oi_add (b := 4)) (by omega) hl ?_
  refine lw_call0 (c := nc235) (as := [.ref 185, .int (sc.getD (m + 1) 0), .int (sc.getD (m + 2) 0), .int (sc.getD (m + 3) 0), .int (sc.getD (m + 4) 0)]) (rest := []) (r' := (xt_333, 6, 1)) xl1920 rfl rfl (lw_recv (c := 12) (pB_nok rfl hO1) rfl rfl rfl) rfl rfl rfl nN235 hO1 ⟨_, _, rfl, kv_argr 185, _, _, rfl, kv_arg _, _, _, rfl, kv_arg _, _, _, rfl, kv_arg _, _, _, rfl, kv_arg _, rfl⟩ h51 (fun v2 B2 I2 J2 hO2 hA2 hp2 hv2 => ?_)
  obtain ⟨x2, rfl, -, -⟩ := kvo_i hv2
  have h52 : npI [(186, 5, 0, 999)] I2 := hp2
  have hR1 := R7_ag hA1 (fun _ => ⟨rfl, rfl, rfl, rfl⟩) hR
  have hR2 := R7_ag hA2 (fun _ => ⟨rfl, rfl, rfl, rfl⟩) hR1
  refine sw_0 (pc' := 1924) (L' := lwL m) (st' := []) (M' := tMem B2 I2 J2) xl1923 rfl rfl ?_
  refine sw_0 (pc' := 2214) (L' := lwL m) (st' := []) (M' := tMem B2 I2 J2) xl1924 rfl rfl ?_
  exact hb B2 I2 J2 ⟨hO2, h52, hR2⟩ ⟨hA2.2.2.1.trans hA1.2.2.1, hA2.2.2.2.trans hA1.2.2.2⟩
set_option maxRecDepth 100000 in
theorem lwc51 {sc : List Int32} {B : xM} {I : tI} {J : tJ} {m : Nat} {Q : Option Value → xM → Prop} (hm : m + 6 ≤ sc.length) (hl : sc.length ≤ 3072) (hI : LInv R7 sc B I J) (hb : ∀ B' I' J', LInv R7 sc B' I' J' → kSz B B' → sw sc rLawX 2214 (lwL m) [] (tMem B' I' J') Q) : sw sc rLawX 1927 (lwL m) [] (tMem B I J) Q := by
  obtain ⟨hO, h5, hR⟩ := hI
  refine sw_0 (pc' := 1928) (L' := lwL m) (st' := [.ref 0]) (M' := tMem B I J) xl1927 rfl rfl ?_
  refine sw_0 (pc' := 1929) (L' := lwL m) (st' := [.retAddr 0, .ref 0]) (M' := tMem B I J) xl1928 rfl rfl ?_
  refine sw_0 (pc' := 1930) (L' := lwL m) (st' := [.int (Int32.ofNat m), .retAddr 0, .ref 0]) (M' := tMem B I J) xl1929 rfl rfl ?_
  refine sw_0 (pc' := 1931) (L' := lwL m) (st' := [.int 1, .int (Int32.ofNat m), .retAddr 0, .ref 0]) (M' := tMem B I J) xl1930 rfl rfl ?_
  refine sw_0 (pc' := 1932) (L' := lwL m) (st' := [.int (Int32.ofNat m + 1), .retAddr 0, .ref 0]) (M' := tMem B I J) xl1931 rfl rfl ?_
  refine sw_ial xl1932 (show Int32.ofNat m + 1 = Int32.ofNat (m + 1) from oi_add (b := 1)) (by omega) hl ?_
  refine sw_0 (pc' := 1934) (L' := lwL m) (st' := [.retAddr 0, .int (sc.getD (m + 1) 0), .ref 0]) (M' := tMem B I J) xl1933 rfl rfl ?_
  refine sw_0 (pc' := 1935) (L' := lwL m) (st' := [.int (Int32.ofNat m), .retAddr 0, .int (sc.getD (m + 1) 0), .ref 0]) (M' := tMem B I J) xl1934 rfl rfl ?_
  refine sw_0 (pc' := 1936) (L' := lwL m) (st' := [.int 2, .int (Int32.ofNat m), .retAddr 0, .int (sc.getD (m + 1) 0), .ref 0]) (M' := tMem B I J) xl1935 rfl rfl ?_
  refine sw_0 (pc' := 1937) (L' := lwL m) (st' := [.int (Int32.ofNat m + 2), .retAddr 0, .int (sc.getD (m + 1) 0), .ref 0]) (M' := tMem B I J) xl1936 rfl rfl ?_
  refine sw_ial xl1937 (show Int32.ofNat m + 2 = Int32.ofNat (m + 2) from oi_add (b := 2)) (by omega) hl ?_
  refine lw_call0 (c := nc236) (as := [.ref 0, .int (sc.getD (m + 1) 0), .int (sc.getD (m + 2) 0)]) (rest := []) (r' := (xt_189, 5, 1)) xl1938 rfl rfl (lw_recv (c := 11) (pB_nok rfl hO) rfl rfl rfl) rfl rfl rfl nN236 hO ⟨_, _, rfl, kv_argr 0, _, _, rfl, kv_arg _, _, _, rfl, kv_arg _, rfl⟩ (fun q hq => by cases hq) (fun v1 B1 I1 J1 hO1 hA1 hp1 hv1 => ?_)
  obtain ⟨x1, rfl, -, -⟩ := kvo_i hv1
  have h51 : npI [(186, 5, 0, 999)] I1 := npI_cg h5 (hA1.1 186 5 rfl).1
  refine sw_0 (pc' := 1942) (L' := lwL m) (st' := []) (M' := tMem B1 I1 J1) xl1941 rfl rfl ?_
  refine sw_0 (pc' := 1943) (L' := lwL m) (st' := [.ref 185]) (M' := tMem B1 I1 J1) xl1942 rfl rfl ?_
  refine sw_0 (pc' := 1944) (L' := lwL m) (st' := [.retAddr 0, .ref 185]) (M' := tMem B1 I1 J1) xl1943 rfl rfl ?_
  refine sw_0 (pc' := 1945) (L' := lwL m) (st' := [.int (Int32.ofNat m), .retAddr 0, .ref 185]) (M' := tMem B1 I1 J1) xl1944 rfl rfl ?_
  refine sw_0 (pc' := 1946) (L' := lwL m) (st' := [.int 1, .int (Int32.ofNat m), .retAddr 0, .ref 185]) (M' := tMem B1 I1 J1) xl1945 rfl rfl ?_
  refine sw_0 (pc' := 1947) (L' := lwL m) (st' := [.int (Int32.ofNat m + 1), .retAddr 0, .ref 185]) (M' := tMem B1 I1 J1) xl1946 rfl rfl ?_
  refine sw_ial xl1947 (show Int32.ofNat m + 1 = Int32.ofNat (m + 1) from oi_add (b := 1)) (by omega) hl ?_
  refine sw_0 (pc' := 1949) (L' := lwL m) (st' := [.retAddr 0, .int (sc.getD (m + 1) 0), .ref 185]) (M' := tMem B1 I1 J1) xl1948 rfl rfl ?_
  refine sw_0 (pc' := 1950) (L' := lwL m) (st' := [.int (Int32.ofNat m), .retAddr 0, .int (sc.getD (m + 1) 0), .ref 185]) (M' := tMem B1 I1 J1) xl1949 rfl rfl ?_
  refine sw_0 (pc' := 1951) (L' := lwL m) (st' := [.int 2, .int (Int32.ofNat m), .retAddr 0, .int (sc.getD (m + 1) 0), .ref 185]) (M' := tMem B1 I1 J1) xl1950 rfl rfl ?_
  refine sw_0 (pc' := 1952) (L' := lwL m) (st' := [.int (Int32.ofNat m + 2), .retAddr 0, .int (sc.getD (m + 1) 0), .ref 185]) (M' := tMem B1 I1 J1) xl1951 rfl rfl ?_
  refine sw_ial xl1952 (show Int32.ofNat m + 2 = Int32.ofNat (m + 2) from oi_add (b := 2)) (by omega) hl ?_
  refine lw_call0 (c := nc237) (as := [.ref 185, .int (sc.getD (m + 1) 0), .int (sc.getD (m + 2) 0)]) (rest := []) (r' := (xt_334, 5, 1)) xl1953 rfl rfl (lw_recv (c := 12) (pB_nok rfl hO1) rfl rfl rfl) rfl rfl rfl nN237 hO1 ⟨_, _, rfl, kv_argr 185, _, _, rfl, kv_arg _, _, _, rfl, kv_arg _, rfl⟩ h51 (fun v2 B2 I2 J2 hO2 hA2 hp2 hv2 => ?_)
  obtain ⟨x2, rfl, -, -⟩ := kvo_i hv2
  have h52 : npI [(186, 5, 0, 999)] I2 := hp2
  have hR1 := R7_ag hA1 (fun _ => ⟨rfl, rfl, rfl, rfl⟩) hR
  have hR2 := R7_ag hA2 (fun _ => ⟨rfl, rfl, rfl, rfl⟩) hR1
  refine sw_0 (pc' := 1957) (L' := lwL m) (st' := []) (M' := tMem B2 I2 J2) xl1956 rfl rfl ?_
  refine sw_0 (pc' := 2214) (L' := lwL m) (st' := []) (M' := tMem B2 I2 J2) xl1957 rfl rfl ?_
  exact hb B2 I2 J2 ⟨hO2, h52, hR2⟩ ⟨hA2.2.2.1.trans hA1.2.2.1, hA2.2.2.2.trans hA1.2.2.2⟩
set_option maxRecDepth 100000 in
theorem lwc52 {sc : List Int32} {B : xM} {I : tI} {J : tJ} {m : Nat} {Q : Option Value → xM → Prop} (hm : m + 6 ≤ sc.length) (hl : sc.length ≤ 3072) (hI : LInv R7 sc B I J) (hb : ∀ B' I' J', LInv R7 sc B' I' J' → kSz B B' → sw sc rLawX 2214 (lwL m) [] (tMem B' I' J') Q) : sw sc rLawX 1960 (lwL m) [] (tMem B I J) Q := by
  obtain ⟨hO, h5, hR⟩ := hI
  refine sw_0 (pc' := 1961) (L' := lwL m) (st' := [.ref 0]) (M' := tMem B I J) xl1960 rfl rfl ?_
  refine sw_0 (pc' := 1962) (L' := lwL m) (st' := [.retAddr 0, .ref 0]) (M' := tMem B I J) xl1961 rfl rfl ?_
  refine sw_0 (pc' := 1963) (L' := lwL m) (st' := [.int (Int32.ofNat m), .retAddr 0, .ref 0]) (M' := tMem B I J) xl1962 rfl rfl ?_
  refine sw_0 (pc' := 1964) (L' := lwL m) (st' := [.int 1, .int (Int32.ofNat m), .retAddr 0, .ref 0]) (M' := tMem B I J) xl1963 rfl rfl ?_
  refine sw_0 (pc' := 1965) (L' := lwL m) (st' := [.int (Int32.ofNat m + 1), .retAddr 0, .ref 0]) (M' := tMem B I J) xl1964 rfl rfl ?_
  refine sw_ial xl1965 (show Int32.ofNat m + 1 = Int32.ofNat (m + 1) from oi_add (b := 1)) (by omega) hl ?_
  refine sw_0 (pc' := 1967) (L' := lwL m) (st' := [.retAddr 0, .int (sc.getD (m + 1) 0), .ref 0]) (M' := tMem B I J) xl1966 rfl rfl ?_
  refine sw_0 (pc' := 1968) (L' := lwL m) (st' := [.int (Int32.ofNat m), .retAddr 0, .int (sc.getD (m + 1) 0), .ref 0]) (M' := tMem B I J) xl1967 rfl rfl ?_
  refine sw_0 (pc' := 1969) (L' := lwL m) (st' := [.int 2, .int (Int32.ofNat m), .retAddr 0, .int (sc.getD (m + 1) 0), .ref 0]) (M' := tMem B I J) xl1968 rfl rfl ?_
  refine sw_0 (pc' := 1970) (L' := lwL m) (st' := [.int (Int32.ofNat m + 2), .retAddr 0, .int (sc.getD (m + 1) 0), .ref 0]) (M' := tMem B I J) xl1969 rfl rfl ?_
  refine sw_ial xl1970 (show Int32.ofNat m + 2 = Int32.ofNat (m + 2) from oi_add (b := 2)) (by omega) hl ?_
  refine sw_0 (pc' := 1972) (L' := lwL m) (st' := [.retAddr 0, .int (sc.getD (m + 2) 0), .int (sc.getD (m + 1) 0), .ref 0]) (M' := tMem B I J) xl1971 rfl rfl ?_
  refine sw_0 (pc' := 1973) (L' := lwL m) (st' := [.int (Int32.ofNat m), .retAddr 0, .int (sc.getD (m + 2) 0), .int (sc.getD (m + 1) 0), .ref 0]) (M' := tMem B I J) xl1972 rfl rfl ?_
  refine sw_0 (pc' := 1974) (L' := lwL m) (st' := [.int 3, .int (Int32.ofNat m), .retAddr 0, .int (sc.getD (m + 2) 0), .int (sc.getD (m + 1) 0), .ref 0]) (M' := tMem B I J) xl1973 rfl rfl ?_
  refine sw_0 (pc' := 1975) (L' := lwL m) (st' := [.int (Int32.ofNat m + 3), .retAddr 0, .int (sc.getD (m + 2) 0), .int (sc.getD (m + 1) 0), .ref 0]) (M' := tMem B I J) xl1974 rfl rfl ?_
  refine sw_ial xl1975 (show Int32.ofNat m + 3 = Int32.ofNat (m + 3) from oi_add (b := 3)) (by omega) hl ?_
  refine lw_call0 (c := nc238) (as := [.ref 0, .int (sc.getD (m + 1) 0), .int (sc.getD (m + 2) 0), .int (sc.getD (m + 3) 0)]) (rest := []) (r' := (xt_191, 6, 1)) xl1976 rfl rfl (lw_recv (c := 11) (pB_nok rfl hO) rfl rfl rfl) rfl rfl rfl nN238 hO ⟨_, _, rfl, kv_argr 0, _, _, rfl, kv_arg _, _, _, rfl, kv_arg _, _, _, rfl, kv_arg _, rfl⟩ (fun q hq => by cases hq) (fun v1 B1 I1 J1 hO1 hA1 hp1 hv1 => ?_)
  obtain ⟨x1, rfl, -, -⟩ := kvo_i hv1
  have h51 : npI [(186, 5, 0, 999)] I1 := npI_cg h5 (hA1.1 186 5 rfl).1
  refine sw_0 (pc' := 1980) (L' := lwL m) (st' := []) (M' := tMem B1 I1 J1) xl1979 rfl rfl ?_
  refine sw_0 (pc' := 1981) (L' := lwL m) (st' := [.ref 185]) (M' := tMem B1 I1 J1) xl1980 rfl rfl ?_
  refine sw_0 (pc' := 1982) (L' := lwL m) (st' := [.retAddr 0, .ref 185]) (M' := tMem B1 I1 J1) xl1981 rfl rfl ?_
  refine sw_0 (pc' := 1983) (L' := lwL m) (st' := [.int (Int32.ofNat m), .retAddr 0, .ref 185]) (M' := tMem B1 I1 J1) xl1982 rfl rfl ?_
  refine sw_0 (pc' := 1984) (L' := lwL m) (st' := [.int 1, .int (Int32.ofNat m), .retAddr 0, .ref 185]) (M' := tMem B1 I1 J1) xl1983 rfl rfl ?_
  refine sw_0 (pc' := 1985) (L' := lwL m) (st' := [.int (Int32.ofNat m + 1), .retAddr 0, .ref 185]) (M' := tMem B1 I1 J1) xl1984 rfl rfl ?_
  refine sw_ial xl1985 (show Int32.ofNat m + 1 = Int32.ofNat (m + 1) from oi_add (b := 1)) (by omega) hl ?_
  refine sw_0 (pc' := 1987) (L' := lwL m) (st' := [.retAddr 0, .int (sc.getD (m + 1) 0), .ref 185]) (M' := tMem B1 I1 J1) xl1986 rfl rfl ?_
  refine sw_0 (pc' := 1988) (L' := lwL m) (st' := [.int (Int32.ofNat m), .retAddr 0, .int (sc.getD (m + 1) 0), .ref 185]) (M' := tMem B1 I1 J1) xl1987 rfl rfl ?_
  refine sw_0 (pc' := 1989) (L' := lwL m) (st' := [.int 2, .int (Int32.ofNat m), .retAddr 0, .int (sc.getD (m + 1) 0), .ref 185]) (M' := tMem B1 I1 J1) xl1988 rfl rfl ?_
  refine sw_0 (pc' := 1990) (L' := lwL m) (st' := [.int (Int32.ofNat m + 2), .retAddr 0, .int (sc.getD (m + 1) 0), .ref 185]) (M' := tMem B1 I1 J1) xl1989 rfl rfl ?_
  refine sw_ial xl1990 (show Int32.ofNat m + 2 = Int32.ofNat (m + 2) from oi_add (b := 2)) (by omega) hl ?_
  refine sw_0 (pc' := 1992) (L' := lwL m) (st' := [.retAddr 0, .int (sc.getD (m + 2) 0), .int (sc.getD (m + 1) 0), .ref 185]) (M' := tMem B1 I1 J1) xl1991 rfl rfl ?_
  refine sw_0 (pc' := 1993) (L' := lwL m) (st' := [.int (Int32.ofNat m), .retAddr 0, .int (sc.getD (m + 2) 0), .int (sc.getD (m + 1) 0), .ref 185]) (M' := tMem B1 I1 J1) xl1992 rfl rfl ?_
  refine sw_0 (pc' := 1994) (L' := lwL m) (st' := [.int 3, .int (Int32.ofNat m), .retAddr 0, .int (sc.getD (m + 2) 0), .int (sc.getD (m + 1) 0), .ref 185]) (M' := tMem B1 I1 J1) xl1993 rfl rfl ?_
  refine sw_0 (pc' := 1995) (L' := lwL m) (st' := [.int (Int32.ofNat m + 3), .retAddr 0, .int (sc.getD (m + 2) 0), .int (sc.getD (m + 1) 0), .ref 185]) (M' := tMem B1 I1 J1) xl1994 rfl rfl ?_
  refine sw_ial xl1995 (show Int32.ofNat m + 3 = Int32.ofNat (m + 3) from oi_add (b := 3)) (by omega) hl ?_
  refine lw_call0 (c := nc239) (as := [.ref 185, .int (sc.getD (m + 1) 0), .int (sc.getD (m + 2) 0), .int (sc.getD (m + 3) 0)]) (rest := []) (r' := (xt_335, 5, 1)) xl1996 rfl rfl (lw_recv (c := 12) (pB_nok rfl hO1) rfl rfl rfl) rfl rfl rfl nN239 hO1 ⟨_, _, rfl, kv_argr 185, _, _, rfl, kv_arg _, _, _, rfl, kv_arg _, _, _, rfl, kv_arg _, rfl⟩ h51 (fun v2 B2 I2 J2 hO2 hA2 hp2 hv2 => ?_)
  obtain ⟨x2, rfl, -, -⟩ := kvo_i hv2
  have h52 : npI [(186, 5, 0, 999)] I2 := hp2
  have hR1 := R7_ag hA1 (fun _ => ⟨rfl, rfl, rfl, rfl⟩) hR
  have hR2 := R7_ag hA2 (fun _ => ⟨rfl, rfl, rfl, rfl⟩) hR1
  refine sw_0 (pc' := 2000) (L' := lwL m) (st' := []) (M' := tMem B2 I2 J2) xl1999 rfl rfl ?_
  refine sw_0 (pc' := 2214) (L' := lwL m) (st' := []) (M' := tMem B2 I2 J2) xl2000 rfl rfl ?_
  exact hb B2 I2 J2 ⟨hO2, h52, hR2⟩ ⟨hA2.2.2.1.trans hA1.2.2.1, hA2.2.2.2.trans hA1.2.2.2⟩
set_option maxRecDepth 100000 in
theorem lwc53 {sc : List Int32} {B : xM} {I : tI} {J : tJ} {m : Nat} {Q : Option Value → xM → Prop} (hm : m + 6 ≤ sc.length) (hl : sc.length ≤ 3072) (hI : LInv R7 sc B I J) (hb : ∀ B' I' J', LInv R7 sc B' I' J' → kSz B B' → sw sc rLawX 2214 (lwL m) [] (tMem B' I' J') Q) : sw sc rLawX 2003 (lwL m) [] (tMem B I J) Q := by
  obtain ⟨hO, h5, hR⟩ := hI
  refine sw_0 (pc' := 2004) (L' := lwL m) (st' := [.ref 0]) (M' := tMem B I J) xl2003 rfl rfl ?_
  refine sw_0 (pc' := 2005) (L' := lwL m) (st' := [.retAddr 0, .ref 0]) (M' := tMem B I J) xl2004 rfl rfl ?_
  refine sw_0 (pc' := 2006) (L' := lwL m) (st' := [.int (Int32.ofNat m), .retAddr 0, .ref 0]) (M' := tMem B I J) xl2005 rfl rfl ?_
  refine sw_0 (pc' := 2007) (L' := lwL m) (st' := [.int 1, .int (Int32.ofNat m), .retAddr 0, .ref 0]) (M' := tMem B I J) xl2006 rfl rfl ?_
  refine sw_0 (pc' := 2008) (L' := lwL m) (st' := [.int (Int32.ofNat m + 1), .retAddr 0, .ref 0]) (M' := tMem B I J) xl2007 rfl rfl ?_
  refine sw_ial xl2008 (show Int32.ofNat m + 1 = Int32.ofNat (m + 1) from oi_add (b := 1)) (by omega) hl ?_
  refine sw_0 (pc' := 2010) (L' := lwL m) (st' := [.retAddr 0, .int (sc.getD (m + 1) 0), .ref 0]) (M' := tMem B I J) xl2009 rfl rfl ?_
  refine sw_0 (pc' := 2011) (L' := lwL m) (st' := [.int (Int32.ofNat m), .retAddr 0, .int (sc.getD (m + 1) 0), .ref 0]) (M' := tMem B I J) xl2010 rfl rfl ?_
  refine sw_0 (pc' := 2012) (L' := lwL m) (st' := [.int 2, .int (Int32.ofNat m), .retAddr 0, .int (sc.getD (m + 1) 0), .ref 0]) (M' := tMem B I J) xl2011 rfl rfl ?_
  refine sw_0 (pc' := 2013) (L' := lwL m) (st' := [.int (Int32.ofNat m + 2), .retAddr 0, .int (sc.getD (m + 1) 0), .ref 0]) (M' := tMem B I J) xl2012 rfl rfl ?_
  refine sw_ial xl2013 (show Int32.ofNat m + 2 = Int32.ofNat (m + 2) from oi_add (b := 2)) (by omega) hl ?_
  refine sw_0 (pc' := 2015) (L' := lwL m) (st' := [.retAddr 0, .int (sc.getD (m + 2) 0), .int (sc.getD (m + 1) 0), .ref 0]) (M' := tMem B I J) xl2014 rfl rfl ?_
  refine sw_0 (pc' := 2016) (L' := lwL m) (st' := [.int (Int32.ofNat m), .retAddr 0, .int (sc.getD (m + 2) 0), .int (sc.getD (m + 1) 0), .ref 0]) (M' := tMem B I J) xl2015 rfl rfl ?_
  refine sw_0 (pc' := 2017) (L' := lwL m) (st' := [.int 3, .int (Int32.ofNat m), .retAddr 0, .int (sc.getD (m + 2) 0), .int (sc.getD (m + 1) 0), .ref 0]) (M' := tMem B I J) xl2016 rfl rfl ?_
  refine sw_0 (pc' := 2018) (L' := lwL m) (st' := [.int (Int32.ofNat m + 3), .retAddr 0, .int (sc.getD (m + 2) 0), .int (sc.getD (m + 1) 0), .ref 0]) (M' := tMem B I J) xl2017 rfl rfl ?_
  refine sw_ial xl2018 (show Int32.ofNat m + 3 = Int32.ofNat (m + 3) from oi_add (b := 3)) (by omega) hl ?_
  refine sw_0 (pc' := 2020) (L' := lwL m) (st' := [.retAddr 0, .int (sc.getD (m + 3) 0), .int (sc.getD (m + 2) 0), .int (sc.getD (m + 1) 0), .ref 0]) (M' := tMem B I J) xl2019 rfl rfl ?_
  refine sw_0 (pc' := 2021) (L' := lwL m) (st' := [.int (Int32.ofNat m), .retAddr 0, .int (sc.getD (m + 3) 0), .int (sc.getD (m + 2) 0), .int (sc.getD (m + 1) 0), .ref 0]) (M' := tMem B I J) xl2020 rfl rfl ?_
  refine sw_0 (pc' := 2022) (L' := lwL m) (st' := [.int 4, .int (Int32.ofNat m), .retAddr 0, .int (sc.getD (m + 3) 0), .int (sc.getD (m + 2) 0), .int (sc.getD (m + 1) 0), .ref 0]) (M' := tMem B I J) xl2021 rfl rfl ?_
  refine sw_0 (pc' := 2023) (L' := lwL m) (st' := [.int (Int32.ofNat m + 4), .retAddr 0, .int (sc.getD (m + 3) 0), .int (sc.getD (m + 2) 0), .int (sc.getD (m + 1) 0), .ref 0]) (M' := tMem B I J) xl2022 rfl rfl ?_
  refine sw_ial xl2023 (show Int32.ofNat m + 4 = Int32.ofNat (m + 4) from oi_add (b := 4)) (by omega) hl ?_
  refine sw_0 (pc' := 2025) (L' := lwL m) (st' := [.retAddr 0, .int (sc.getD (m + 4) 0), .int (sc.getD (m + 3) 0), .int (sc.getD (m + 2) 0), .int (sc.getD (m + 1) 0), .ref 0]) (M' := tMem B I J) xl2024 rfl rfl ?_
  refine sw_0 (pc' := 2026) (L' := lwL m) (st' := [.int (Int32.ofNat m), .retAddr 0, .int (sc.getD (m + 4) 0), .int (sc.getD (m + 3) 0), .int (sc.getD (m + 2) 0), .int (sc.getD (m + 1) 0), .ref 0]) (M' := tMem B I J) xl2025 rfl rfl ?_
  refine sw_0 (pc' := 2027) (L' := lwL m) (st' := [.int 5, .int (Int32.ofNat m), .retAddr 0, .int (sc.getD (m + 4) 0), .int (sc.getD (m + 3) 0), .int (sc.getD (m + 2) 0), .int (sc.getD (m + 1) 0), .ref 0]) (M' := tMem B I J) xl2026 rfl rfl ?_
  refine sw_0 (pc' := 2028) (L' := lwL m) (st' := [.int (Int32.ofNat m + 5), .retAddr 0, .int (sc.getD (m + 4) 0), .int (sc.getD (m + 3) 0), .int (sc.getD (m + 2) 0), .int (sc.getD (m + 1) 0), .ref 0]) (M' := tMem B I J) xl2027 rfl rfl ?_
  refine sw_ial xl2028 (show Int32.ofNat m + 5 = Int32.ofNat (m + 5) from oi_add (b := 5)) (by omega) hl ?_
  refine lw_call0 (c := nc245) (as := [.ref 0, .int (sc.getD (m + 1) 0), .int (sc.getD (m + 2) 0), .int (sc.getD (m + 3) 0), .int (sc.getD (m + 4) 0), .int (sc.getD (m + 5) 0)]) (rest := []) (r' := (xt_192, 9, 2)) xl2029 rfl rfl (lw_recv (c := 11) (pB_nok rfl hO) rfl rfl rfl) rfl rfl rfl nN245 hO ⟨_, _, rfl, kv_argr 0, _, _, rfl, kv_arg _, _, _, rfl, kv_arg _, _, _, rfl, kv_arg _, _, _, rfl, kv_arg _, _, _, rfl, kv_arg _, rfl⟩ (fun q hq => by cases hq) (fun v1 B1 I1 J1 hO1 hA1 hp1 hv1 => ?_)
  obtain ⟨x1, rfl⟩ := kvo_l hv1
  have h51 : npI [(186, 5, 0, 999)] I1 := npI_cg h5 (hA1.1 186 5 rfl).1
  refine sw_x (pc' := 2033) (L' := lwL m) (st' := []) (M' := tMem B1 I1 J1) xl2032 rfl rfl ?_
  refine sw_0 (pc' := 2034) (L' := lwL m) (st' := [.ref 185]) (M' := tMem B1 I1 J1) xl2033 rfl rfl ?_
  refine sw_0 (pc' := 2035) (L' := lwL m) (st' := [.retAddr 0, .ref 185]) (M' := tMem B1 I1 J1) xl2034 rfl rfl ?_
  refine sw_0 (pc' := 2036) (L' := lwL m) (st' := [.int (Int32.ofNat m), .retAddr 0, .ref 185]) (M' := tMem B1 I1 J1) xl2035 rfl rfl ?_
  refine sw_0 (pc' := 2037) (L' := lwL m) (st' := [.int 1, .int (Int32.ofNat m), .retAddr 0, .ref 185]) (M' := tMem B1 I1 J1) xl2036 rfl rfl ?_
  refine sw_0 (pc' := 2038) (L' := lwL m) (st' := [.int (Int32.ofNat m + 1), .retAddr 0, .ref 185]) (M' := tMem B1 I1 J1) xl2037 rfl rfl ?_
  refine sw_ial xl2038 (show Int32.ofNat m + 1 = Int32.ofNat (m + 1) from oi_add (b := 1)) (by omega) hl ?_
  refine sw_0 (pc' := 2040) (L' := lwL m) (st' := [.retAddr 0, .int (sc.getD (m + 1) 0), .ref 185]) (M' := tMem B1 I1 J1) xl2039 rfl rfl ?_
  refine sw_0 (pc' := 2041) (L' := lwL m) (st' := [.int (Int32.ofNat m), .retAddr 0, .int (sc.getD (m + 1) 0), .ref 185]) (M' := tMem B1 I1 J1) xl2040 rfl rfl ?_
  refine sw_0 (pc' := 2042) (L' := lwL m) (st' := [.int 2, .int (Int32.ofNat m), .retAddr 0, .int (sc.getD (m + 1) 0), .ref 185]) (M' := tMem B1 I1 J1) xl2041 rfl rfl ?_
  refine sw_0 (pc' := 2043) (L' := lwL m) (st' := [.int (Int32.ofNat m + 2), .retAddr 0, .int (sc.getD (m + 1) 0), .ref 185]) (M' := tMem B1 I1 J1) xl2042 rfl rfl ?_
  refine sw_ial xl2043 (show Int32.ofNat m + 2 = Int32.ofNat (m + 2) from oi_add (b := 2)) (by omega) hl ?_
  refine sw_0 (pc' := 2045) (L' := lwL m) (st' := [.retAddr 0, .int (sc.getD (m + 2) 0), .int (sc.getD (m + 1) 0), .ref 185]) (M' := tMem B1 I1 J1) xl2044 rfl rfl ?_
  refine sw_0 (pc' := 2046) (L' := lwL m) (st' := [.int (Int32.ofNat m), .retAddr 0, .int (sc.getD (m + 2) 0), .int (sc.getD (m + 1) 0), .ref 185]) (M' := tMem B1 I1 J1) xl2045 rfl rfl ?_
  refine sw_0 (pc' := 2047) (L' := lwL m) (st' := [.int 3, .int (Int32.ofNat m), .retAddr 0, .int (sc.getD (m + 2) 0), .int (sc.getD (m + 1) 0), .ref 185]) (M' := tMem B1 I1 J1) xl2046 rfl rfl ?_
  refine sw_0 (pc' := 2048) (L' := lwL m) (st' := [.int (Int32.ofNat m + 3), .retAddr 0, .int (sc.getD (m + 2) 0), .int (sc.getD (m + 1) 0), .ref 185]) (M' := tMem B1 I1 J1) xl2047 rfl rfl ?_
  refine sw_ial xl2048 (show Int32.ofNat m + 3 = Int32.ofNat (m + 3) from oi_add (b := 3)) (by omega) hl ?_
  refine sw_0 (pc' := 2050) (L' := lwL m) (st' := [.retAddr 0, .int (sc.getD (m + 3) 0), .int (sc.getD (m + 2) 0), .int (sc.getD (m + 1) 0), .ref 185]) (M' := tMem B1 I1 J1) xl2049 rfl rfl ?_
  refine sw_0 (pc' := 2051) (L' := lwL m) (st' := [.int (Int32.ofNat m), .retAddr 0, .int (sc.getD (m + 3) 0), .int (sc.getD (m + 2) 0), .int (sc.getD (m + 1) 0), .ref 185]) (M' := tMem B1 I1 J1) xl2050 rfl rfl ?_
  refine sw_0 (pc' := 2052) (L' := lwL m) (st' := [.int 4, .int (Int32.ofNat m), .retAddr 0, .int (sc.getD (m + 3) 0), .int (sc.getD (m + 2) 0), .int (sc.getD (m + 1) 0), .ref 185]) (M' := tMem B1 I1 J1) xl2051 rfl rfl ?_
  refine sw_0 (pc' := 2053) (L' := lwL m) (st' := [.int (Int32.ofNat m + 4), .retAddr 0, .int (sc.getD (m + 3) 0), .int (sc.getD (m + 2) 0), .int (sc.getD (m + 1) 0), .ref 185]) (M' := tMem B1 I1 J1) xl2052 rfl rfl ?_
  refine sw_ial xl2053 (show Int32.ofNat m + 4 = Int32.ofNat (m + 4) from oi_add (b := 4)) (by omega) hl ?_
  refine sw_0 (pc' := 2055) (L' := lwL m) (st' := [.retAddr 0, .int (sc.getD (m + 4) 0), .int (sc.getD (m + 3) 0), .int (sc.getD (m + 2) 0), .int (sc.getD (m + 1) 0), .ref 185]) (M' := tMem B1 I1 J1) xl2054 rfl rfl ?_
  refine sw_0 (pc' := 2056) (L' := lwL m) (st' := [.int (Int32.ofNat m), .retAddr 0, .int (sc.getD (m + 4) 0), .int (sc.getD (m + 3) 0), .int (sc.getD (m + 2) 0), .int (sc.getD (m + 1) 0), .ref 185]) (M' := tMem B1 I1 J1) xl2055 rfl rfl ?_
  refine sw_0 (pc' := 2057) (L' := lwL m) (st' := [.int 5, .int (Int32.ofNat m), .retAddr 0, .int (sc.getD (m + 4) 0), .int (sc.getD (m + 3) 0), .int (sc.getD (m + 2) 0), .int (sc.getD (m + 1) 0), .ref 185]) (M' := tMem B1 I1 J1) xl2056 rfl rfl ?_
  refine sw_0 (pc' := 2058) (L' := lwL m) (st' := [.int (Int32.ofNat m + 5), .retAddr 0, .int (sc.getD (m + 4) 0), .int (sc.getD (m + 3) 0), .int (sc.getD (m + 2) 0), .int (sc.getD (m + 1) 0), .ref 185]) (M' := tMem B1 I1 J1) xl2057 rfl rfl ?_
  refine sw_ial xl2058 (show Int32.ofNat m + 5 = Int32.ofNat (m + 5) from oi_add (b := 5)) (by omega) hl ?_
  refine lw_call0 (c := nc246) (as := [.ref 185, .int (sc.getD (m + 1) 0), .int (sc.getD (m + 2) 0), .int (sc.getD (m + 3) 0), .int (sc.getD (m + 4) 0), .int (sc.getD (m + 5) 0)]) (rest := []) (r' := (xt_336, 11, 2)) xl2059 rfl rfl (lw_recv (c := 12) (pB_nok rfl hO1) rfl rfl rfl) rfl rfl rfl nN246 hO1 ⟨_, _, rfl, kv_argr 185, _, _, rfl, kv_arg _, _, _, rfl, kv_arg _, _, _, rfl, kv_arg _, _, _, rfl, kv_arg _, _, _, rfl, kv_arg _, rfl⟩ h51 (fun v2 B2 I2 J2 hO2 hA2 hp2 hv2 => ?_)
  obtain ⟨x2, rfl⟩ := kvo_l hv2
  have h52 : npI [(186, 5, 0, 999)] I2 := hp2
  have hR1 := R7_ag hA1 (fun _ => ⟨rfl, rfl, rfl, rfl⟩) hR
  have hR2 := R7_ag hA2 (fun _ => ⟨rfl, rfl, rfl, rfl⟩) hR1
  refine sw_x (pc' := 2063) (L' := lwL m) (st' := []) (M' := tMem B2 I2 J2) xl2062 rfl rfl ?_
  refine sw_0 (pc' := 2214) (L' := lwL m) (st' := []) (M' := tMem B2 I2 J2) xl2063 rfl rfl ?_
  exact hb B2 I2 J2 ⟨hO2, h52, hR2⟩ ⟨hA2.2.2.1.trans hA1.2.2.1, hA2.2.2.2.trans hA1.2.2.2⟩
set_option maxRecDepth 100000 in
theorem lwc54 {sc : List Int32} {B : xM} {I : tI} {J : tJ} {m : Nat} {Q : Option Value → xM → Prop} (hm : m + 6 ≤ sc.length) (hl : sc.length ≤ 3072) (hI : LInv R7 sc B I J) (hb : ∀ B' I' J', LInv R7 sc B' I' J' → kSz B B' → sw sc rLawX 2214 (lwL m) [] (tMem B' I' J') Q) : sw sc rLawX 2066 (lwL m) [] (tMem B I J) Q := by
  obtain ⟨hO, h5, hR⟩ := hI
  refine sw_0 (pc' := 2067) (L' := lwL m) (st' := [.ref 0]) (M' := tMem B I J) xl2066 rfl rfl ?_
  refine sw_0 (pc' := 2068) (L' := lwL m) (st' := [.retAddr 0, .ref 0]) (M' := tMem B I J) xl2067 rfl rfl ?_
  refine sw_0 (pc' := 2069) (L' := lwL m) (st' := [.int (Int32.ofNat m), .retAddr 0, .ref 0]) (M' := tMem B I J) xl2068 rfl rfl ?_
  refine sw_0 (pc' := 2070) (L' := lwL m) (st' := [.int 1, .int (Int32.ofNat m), .retAddr 0, .ref 0]) (M' := tMem B I J) xl2069 rfl rfl ?_
  refine sw_0 (pc' := 2071) (L' := lwL m) (st' := [.int (Int32.ofNat m + 1), .retAddr 0, .ref 0]) (M' := tMem B I J) xl2070 rfl rfl ?_
  refine sw_ial xl2071 (show Int32.ofNat m + 1 = Int32.ofNat (m + 1) from oi_add (b := 1)) (by omega) hl ?_
  refine sw_0 (pc' := 2073) (L' := lwL m) (st' := [.retAddr 0, .int (sc.getD (m + 1) 0), .ref 0]) (M' := tMem B I J) xl2072 rfl rfl ?_
  refine sw_0 (pc' := 2074) (L' := lwL m) (st' := [.int (Int32.ofNat m), .retAddr 0, .int (sc.getD (m + 1) 0), .ref 0]) (M' := tMem B I J) xl2073 rfl rfl ?_
  refine sw_0 (pc' := 2075) (L' := lwL m) (st' := [.int 2, .int (Int32.ofNat m), .retAddr 0, .int (sc.getD (m + 1) 0), .ref 0]) (M' := tMem B I J) xl2074 rfl rfl ?_
  refine sw_0 (pc' := 2076) (L' := lwL m) (st' := [.int (Int32.ofNat m + 2), .retAddr 0, .int (sc.getD (m + 1) 0), .ref 0]) (M' := tMem B I J) xl2075 rfl rfl ?_
  refine sw_ial xl2076 (show Int32.ofNat m + 2 = Int32.ofNat (m + 2) from oi_add (b := 2)) (by omega) hl ?_
  refine sw_0 (pc' := 2078) (L' := lwL m) (st' := [.retAddr 0, .int (sc.getD (m + 2) 0), .int (sc.getD (m + 1) 0), .ref 0]) (M' := tMem B I J) xl2077 rfl rfl ?_
  refine sw_0 (pc' := 2079) (L' := lwL m) (st' := [.int (Int32.ofNat m), .retAddr 0, .int (sc.getD (m + 2) 0), .int (sc.getD (m + 1) 0), .ref 0]) (M' := tMem B I J) xl2078 rfl rfl ?_
  refine sw_0 (pc' := 2080) (L' := lwL m) (st' := [.int 3, .int (Int32.ofNat m), .retAddr 0, .int (sc.getD (m + 2) 0), .int (sc.getD (m + 1) 0), .ref 0]) (M' := tMem B I J) xl2079 rfl rfl ?_
  refine sw_0 (pc' := 2081) (L' := lwL m) (st' := [.int (Int32.ofNat m + 3), .retAddr 0, .int (sc.getD (m + 2) 0), .int (sc.getD (m + 1) 0), .ref 0]) (M' := tMem B I J) xl2080 rfl rfl ?_
  refine sw_ial xl2081 (show Int32.ofNat m + 3 = Int32.ofNat (m + 3) from oi_add (b := 3)) (by omega) hl ?_
  refine lw_call0 (c := nc248) (as := [.ref 0, .int (sc.getD (m + 1) 0), .int (sc.getD (m + 2) 0), .int (sc.getD (m + 3) 0)]) (rest := []) (r' := (xt_193, 6, 1)) xl2082 rfl rfl (lw_recv (c := 11) (pB_nok rfl hO) rfl rfl rfl) rfl rfl rfl nN248 hO ⟨_, _, rfl, kv_argr 0, _, _, rfl, kv_arg _, _, _, rfl, kv_arg _, _, _, rfl, kv_arg _, rfl⟩ (fun q hq => by cases hq) (fun v1 B1 I1 J1 hO1 hA1 hp1 hv1 => ?_)
  obtain ⟨x1, rfl, -, -⟩ := kvo_i hv1
  have h51 : npI [(186, 5, 0, 999)] I1 := npI_cg h5 (hA1.1 186 5 rfl).1
  refine sw_0 (pc' := 2086) (L' := lwL m) (st' := []) (M' := tMem B1 I1 J1) xl2085 rfl rfl ?_
  refine sw_0 (pc' := 2087) (L' := lwL m) (st' := [.ref 185]) (M' := tMem B1 I1 J1) xl2086 rfl rfl ?_
  refine sw_0 (pc' := 2088) (L' := lwL m) (st' := [.retAddr 0, .ref 185]) (M' := tMem B1 I1 J1) xl2087 rfl rfl ?_
  refine sw_0 (pc' := 2089) (L' := lwL m) (st' := [.int (Int32.ofNat m), .retAddr 0, .ref 185]) (M' := tMem B1 I1 J1) xl2088 rfl rfl ?_
  refine sw_0 (pc' := 2090) (L' := lwL m) (st' := [.int 1, .int (Int32.ofNat m), .retAddr 0, .ref 185]) (M' := tMem B1 I1 J1) xl2089 rfl rfl ?_
  refine sw_0 (pc' := 2091) (L' := lwL m) (st' := [.int (Int32.ofNat m + 1), .retAddr 0, .ref 185]) (M' := tMem B1 I1 J1) xl2090 rfl rfl ?_
  refine sw_ial xl2091 (show Int32.ofNat m + 1 = Int32.ofNat (m + 1) from oi_add (b := 1)) (by omega) hl ?_
  refine sw_0 (pc' := 2093) (L' := lwL m) (st' := [.retAddr 0, .int (sc.getD (m + 1) 0), .ref 185]) (M' := tMem B1 I1 J1) xl2092 rfl rfl ?_
  refine sw_0 (pc' := 2094) (L' := lwL m) (st' := [.int (Int32.ofNat m), .retAddr 0, .int (sc.getD (m + 1) 0), .ref 185]) (M' := tMem B1 I1 J1) xl2093 rfl rfl ?_
  refine sw_0 (pc' := 2095) (L' := lwL m) (st' := [.int 2, .int (Int32.ofNat m), .retAddr 0, .int (sc.getD (m + 1) 0), .ref 185]) (M' := tMem B1 I1 J1) xl2094 rfl rfl ?_
  refine sw_0 (pc' := 2096) (L' := lwL m) (st' := [.int (Int32.ofNat m + 2), .retAddr 0, .int (sc.getD (m + 1) 0), .ref 185]) (M' := tMem B1 I1 J1) xl2095 rfl rfl ?_
  refine sw_ial xl2096 (show Int32.ofNat m + 2 = Int32.ofNat (m + 2) from oi_add (b := 2)) (by omega) hl ?_
  refine sw_0 (pc' := 2098) (L' := lwL m) (st' := [.retAddr 0, .int (sc.getD (m + 2) 0), .int (sc.getD (m + 1) 0), .ref 185]) (M' := tMem B1 I1 J1) xl2097 rfl rfl ?_
  refine sw_0 (pc' := 2099) (L' := lwL m) (st' := [.int (Int32.ofNat m), .retAddr 0, .int (sc.getD (m + 2) 0), .int (sc.getD (m + 1) 0), .ref 185]) (M' := tMem B1 I1 J1) xl2098 rfl rfl ?_
  refine sw_0 (pc' := 2100) (L' := lwL m) (st' := [.int 3, .int (Int32.ofNat m), .retAddr 0, .int (sc.getD (m + 2) 0), .int (sc.getD (m + 1) 0), .ref 185]) (M' := tMem B1 I1 J1) xl2099 rfl rfl ?_
  refine sw_0 (pc' := 2101) (L' := lwL m) (st' := [.int (Int32.ofNat m + 3), .retAddr 0, .int (sc.getD (m + 2) 0), .int (sc.getD (m + 1) 0), .ref 185]) (M' := tMem B1 I1 J1) xl2100 rfl rfl ?_
  refine sw_ial xl2101 (show Int32.ofNat m + 3 = Int32.ofNat (m + 3) from oi_add (b := 3)) (by omega) hl ?_
  refine lw_call0 (c := nc249) (as := [.ref 185, .int (sc.getD (m + 1) 0), .int (sc.getD (m + 2) 0), .int (sc.getD (m + 3) 0)]) (rest := []) (r' := (xt_337, 7, 1)) xl2102 rfl rfl (lw_recv (c := 12) (pB_nok rfl hO1) rfl rfl rfl) rfl rfl rfl nN249 hO1 ⟨_, _, rfl, kv_argr 185, _, _, rfl, kv_arg _, _, _, rfl, kv_arg _, _, _, rfl, kv_arg _, rfl⟩ h51 (fun v2 B2 I2 J2 hO2 hA2 hp2 hv2 => ?_)
  obtain ⟨x2, rfl, -, -⟩ := kvo_i hv2
  have h52 : npI [(186, 5, 0, 999)] I2 := hp2
  have hR1 := R7_ag hA1 (fun _ => ⟨rfl, rfl, rfl, rfl⟩) hR
  have hR2 := R7_ag hA2 (fun _ => ⟨rfl, rfl, rfl, rfl⟩) hR1
  refine sw_0 (pc' := 2106) (L' := lwL m) (st' := []) (M' := tMem B2 I2 J2) xl2105 rfl rfl ?_
  refine sw_0 (pc' := 2214) (L' := lwL m) (st' := []) (M' := tMem B2 I2 J2) xl2106 rfl rfl ?_
  exact hb B2 I2 J2 ⟨hO2, h52, hR2⟩ ⟨hA2.2.2.1.trans hA1.2.2.1, hA2.2.2.2.trans hA1.2.2.2⟩
set_option maxRecDepth 100000 in
theorem lwc55 {sc : List Int32} {B : xM} {I : tI} {J : tJ} {m : Nat} {Q : Option Value → xM → Prop} (hm : m + 6 ≤ sc.length) (hl : sc.length ≤ 3072) (hI : LInv R7 sc B I J) (hb : ∀ B' I' J', LInv R7 sc B' I' J' → kSz B B' → sw sc rLawX 2214 (lwL m) [] (tMem B' I' J') Q) : sw sc rLawX 2109 (lwL m) [] (tMem B I J) Q := by
  obtain ⟨hO, h5, hR⟩ := hI
  refine sw_0 (pc' := 2110) (L' := lwL m) (st' := [.ref 0]) (M' := tMem B I J) xl2109 rfl rfl ?_
  refine sw_0 (pc' := 2111) (L' := lwL m) (st' := [.retAddr 0, .ref 0]) (M' := tMem B I J) xl2110 rfl rfl ?_
  refine sw_0 (pc' := 2112) (L' := lwL m) (st' := [.int (Int32.ofNat m), .retAddr 0, .ref 0]) (M' := tMem B I J) xl2111 rfl rfl ?_
  refine sw_0 (pc' := 2113) (L' := lwL m) (st' := [.int 1, .int (Int32.ofNat m), .retAddr 0, .ref 0]) (M' := tMem B I J) xl2112 rfl rfl ?_
  refine sw_0 (pc' := 2114) (L' := lwL m) (st' := [.int (Int32.ofNat m + 1), .retAddr 0, .ref 0]) (M' := tMem B I J) xl2113 rfl rfl ?_
  refine sw_ial xl2114 (show Int32.ofNat m + 1 = Int32.ofNat (m + 1) from oi_add (b := 1)) (by omega) hl ?_
  refine lw_call0 (c := nc254) (as := [.ref 0, .int (sc.getD (m + 1) 0)]) (rest := []) (r' := (xt_194, 2, 1)) xl2115 rfl rfl (lw_recv (c := 11) (pB_nok rfl hO) rfl rfl rfl) rfl rfl rfl nN254 hO ⟨_, _, rfl, kv_argr 0, _, _, rfl, kv_arg _, rfl⟩ (fun q hq => by cases hq) (fun v1 B1 I1 J1 hO1 hA1 hp1 hv1 => ?_)
  obtain ⟨x1, rfl, -, -⟩ := kvo_i hv1
  have h51 : npI [(186, 5, 0, 999)] I1 := npI_cg h5 (hA1.1 186 5 rfl).1
  refine sw_0 (pc' := 2119) (L' := lwL m) (st' := []) (M' := tMem B1 I1 J1) xl2118 rfl rfl ?_
  refine sw_0 (pc' := 2120) (L' := lwL m) (st' := [.ref 185]) (M' := tMem B1 I1 J1) xl2119 rfl rfl ?_
  refine sw_0 (pc' := 2121) (L' := lwL m) (st' := [.retAddr 0, .ref 185]) (M' := tMem B1 I1 J1) xl2120 rfl rfl ?_
  refine sw_0 (pc' := 2122) (L' := lwL m) (st' := [.int (Int32.ofNat m), .retAddr 0, .ref 185]) (M' := tMem B1 I1 J1) xl2121 rfl rfl ?_
  refine sw_0 (pc' := 2123) (L' := lwL m) (st' := [.int 1, .int (Int32.ofNat m), .retAddr 0, .ref 185]) (M' := tMem B1 I1 J1) xl2122 rfl rfl ?_
  refine sw_0 (pc' := 2124) (L' := lwL m) (st' := [.int (Int32.ofNat m + 1), .retAddr 0, .ref 185]) (M' := tMem B1 I1 J1) xl2123 rfl rfl ?_
  refine sw_ial xl2124 (show Int32.ofNat m + 1 = Int32.ofNat (m + 1) from oi_add (b := 1)) (by omega) hl ?_
  refine lw_call0 (c := nc259) (as := [.ref 185, .int (sc.getD (m + 1) 0)]) (rest := []) (r' := (xt_346, 3, 1)) xl2125 rfl rfl (lw_recv (c := 12) (pB_nok rfl hO1) rfl rfl rfl) rfl rfl rfl nN259 hO1 ⟨_, _, rfl, kv_argr 185, _, _, rfl, kv_arg _, rfl⟩ h51 (fun v2 B2 I2 J2 hO2 hA2 hp2 hv2 => ?_)
  obtain ⟨x2, rfl, -, -⟩ := kvo_i hv2
  have h52 : npI [(186, 5, 0, 999)] I2 := hp2
  have hR1 := R7_ag hA1 (fun _ => ⟨rfl, rfl, rfl, rfl⟩) hR
  have hR2 := R7_ag hA2 (fun _ => ⟨rfl, rfl, rfl, rfl⟩) hR1
  refine sw_0 (pc' := 2129) (L' := lwL m) (st' := []) (M' := tMem B2 I2 J2) xl2128 rfl rfl ?_
  refine sw_0 (pc' := 2214) (L' := lwL m) (st' := []) (M' := tMem B2 I2 J2) xl2129 rfl rfl ?_
  exact hb B2 I2 J2 ⟨hO2, h52, hR2⟩ ⟨hA2.2.2.1.trans hA1.2.2.1, hA2.2.2.2.trans hA1.2.2.2⟩
set_option maxRecDepth 100000 in
theorem lwc56 {sc : List Int32} {B : xM} {I : tI} {J : tJ} {m : Nat} {Q : Option Value → xM → Prop} (hm : m + 6 ≤ sc.length) (hl : sc.length ≤ 3072) (hI : LInv R7 sc B I J) (hb : ∀ B' I' J', LInv R7 sc B' I' J' → kSz B B' → sw sc rLawX 2214 (lwL m) [] (tMem B' I' J') Q) : sw sc rLawX 2132 (lwL m) [] (tMem B I J) Q := by
  obtain ⟨hO, h5, hR⟩ := hI
  refine sw_0 (pc' := 2133) (L' := lwL m) (st' := [.ref 0]) (M' := tMem B I J) xl2132 rfl rfl ?_
  refine sw_0 (pc' := 2134) (L' := lwL m) (st' := [.retAddr 0, .ref 0]) (M' := tMem B I J) xl2133 rfl rfl ?_
  refine sw_0 (pc' := 2135) (L' := lwL m) (st' := [.int (Int32.ofNat m), .retAddr 0, .ref 0]) (M' := tMem B I J) xl2134 rfl rfl ?_
  refine sw_0 (pc' := 2136) (L' := lwL m) (st' := [.int 1, .int (Int32.ofNat m), .retAddr 0, .ref 0]) (M' := tMem B I J) xl2135 rfl rfl ?_
  refine sw_0 (pc' := 2137) (L' := lwL m) (st' := [.int (Int32.ofNat m + 1), .retAddr 0, .ref 0]) (M' := tMem B I J) xl2136 rfl rfl ?_
  refine sw_ial xl2137 (show Int32.ofNat m + 1 = Int32.ofNat (m + 1) from oi_add (b := 1)) (by omega) hl ?_
  refine lw_call0 (c := nc260) (as := [.ref 0, .int (sc.getD (m + 1) 0)]) (rest := []) (r' := (xt_195, 2, 1)) xl2138 rfl rfl (lw_recv (c := 11) (pB_nok rfl hO) rfl rfl rfl) rfl rfl rfl nN260 hO ⟨_, _, rfl, kv_argr 0, _, _, rfl, kv_arg _, rfl⟩ (fun q hq => by cases hq) (fun v1 B1 I1 J1 hO1 hA1 hp1 hv1 => ?_)
  obtain ⟨x1, rfl, -, -⟩ := kvo_i hv1
  have h51 : npI [(186, 5, 0, 999)] I1 := npI_cg h5 (hA1.1 186 5 rfl).1
  refine sw_0 (pc' := 2142) (L' := lwL m) (st' := []) (M' := tMem B1 I1 J1) xl2141 rfl rfl ?_
  refine sw_0 (pc' := 2143) (L' := lwL m) (st' := [.ref 185]) (M' := tMem B1 I1 J1) xl2142 rfl rfl ?_
  refine sw_0 (pc' := 2144) (L' := lwL m) (st' := [.retAddr 0, .ref 185]) (M' := tMem B1 I1 J1) xl2143 rfl rfl ?_
  refine sw_0 (pc' := 2145) (L' := lwL m) (st' := [.int (Int32.ofNat m), .retAddr 0, .ref 185]) (M' := tMem B1 I1 J1) xl2144 rfl rfl ?_
  refine sw_0 (pc' := 2146) (L' := lwL m) (st' := [.int 1, .int (Int32.ofNat m), .retAddr 0, .ref 185]) (M' := tMem B1 I1 J1) xl2145 rfl rfl ?_
  refine sw_0 (pc' := 2147) (L' := lwL m) (st' := [.int (Int32.ofNat m + 1), .retAddr 0, .ref 185]) (M' := tMem B1 I1 J1) xl2146 rfl rfl ?_
  refine sw_ial xl2147 (show Int32.ofNat m + 1 = Int32.ofNat (m + 1) from oi_add (b := 1)) (by omega) hl ?_
  refine lw_call0 (c := nc261) (as := [.ref 185, .int (sc.getD (m + 1) 0)]) (rest := []) (r' := (xt_347, 2, 1)) xl2148 rfl rfl (lw_recv (c := 12) (pB_nok rfl hO1) rfl rfl rfl) rfl rfl rfl nN261 hO1 ⟨_, _, rfl, kv_argr 185, _, _, rfl, kv_arg _, rfl⟩ h51 (fun v2 B2 I2 J2 hO2 hA2 hp2 hv2 => ?_)
  obtain ⟨x2, rfl, -, -⟩ := kvo_i hv2
  have h52 : npI [(186, 5, 0, 999)] I2 := hp2
  have hR1 := R7_ag hA1 (fun _ => ⟨rfl, rfl, rfl, rfl⟩) hR
  have hR2 := R7_ag hA2 (fun _ => ⟨rfl, rfl, rfl, rfl⟩) hR1
  refine sw_0 (pc' := 2152) (L' := lwL m) (st' := []) (M' := tMem B2 I2 J2) xl2151 rfl rfl ?_
  refine sw_0 (pc' := 2214) (L' := lwL m) (st' := []) (M' := tMem B2 I2 J2) xl2152 rfl rfl ?_
  exact hb B2 I2 J2 ⟨hO2, h52, hR2⟩ ⟨hA2.2.2.1.trans hA1.2.2.1, hA2.2.2.2.trans hA1.2.2.2⟩
set_option maxRecDepth 100000 in
theorem lwc57 {sc : List Int32} {B : xM} {I : tI} {J : tJ} {m : Nat} {Q : Option Value → xM → Prop} (hm : m + 6 ≤ sc.length) (hl : sc.length ≤ 3072) (hI : LInv R7 sc B I J) (hb : ∀ B' I' J', LInv R7 sc B' I' J' → kSz B B' → sw sc rLawX 2214 (lwL m) [] (tMem B' I' J') Q) : sw sc rLawX 2155 (lwL m) [] (tMem B I J) Q := by
  obtain ⟨hO, h5, hR⟩ := hI
  refine sw_0 (pc' := 2156) (L' := lwL m) (st' := [.ref 0]) (M' := tMem B I J) xl2155 rfl rfl ?_
  refine sw_0 (pc' := 2157) (L' := lwL m) (st' := [.retAddr 0, .ref 0]) (M' := tMem B I J) xl2156 rfl rfl ?_
  refine sw_0 (pc' := 2158) (L' := lwL m) (st' := [.int (Int32.ofNat m), .retAddr 0, .ref 0]) (M' := tMem B I J) xl2157 rfl rfl ?_
  refine sw_0 (pc' := 2159) (L' := lwL m) (st' := [.int 1, .int (Int32.ofNat m), .retAddr 0, .ref 0]) (M' := tMem B I J) xl2158 rfl rfl ?_
  refine sw_0 (pc' := 2160) (L' := lwL m) (st' := [.int (Int32.ofNat m + 1), .retAddr 0, .ref 0]) (M' := tMem B I J) xl2159 rfl rfl ?_
  refine sw_ial xl2160 (show Int32.ofNat m + 1 = Int32.ofNat (m + 1) from oi_add (b := 1)) (by omega) hl ?_
  refine sw_0 (pc' := 2162) (L' := lwL m) (st' := [.retAddr 0, .int (sc.getD (m + 1) 0), .ref 0]) (M' := tMem B I J) xl2161 rfl rfl ?_
  refine sw_0 (pc' := 2163) (L' := lwL m) (st' := [.int (Int32.ofNat m), .retAddr 0, .int (sc.getD (m + 1) 0), .ref 0]) (M' := tMem B I J) xl2162 rfl rfl ?_
  refine sw_0 (pc' := 2164) (L' := lwL m) (st' := [.int 2, .int (Int32.ofNat m), .retAddr 0, .int (sc.getD (m + 1) 0), .ref 0]) (M' := tMem B I J) xl2163 rfl rfl ?_
  refine sw_0 (pc' := 2165) (L' := lwL m) (st' := [.int (Int32.ofNat m + 2), .retAddr 0, .int (sc.getD (m + 1) 0), .ref 0]) (M' := tMem B I J) xl2164 rfl rfl ?_
  refine sw_ial xl2165 (show Int32.ofNat m + 2 = Int32.ofNat (m + 2) from oi_add (b := 2)) (by omega) hl ?_
  refine lw_call0 (c := nc274) (as := [.ref 0, .int (sc.getD (m + 1) 0), .int (sc.getD (m + 2) 0)]) (rest := []) (r' := (xt_196, 6, 3)) xl2166 rfl rfl (lw_recv (c := 11) (pB_nok rfl hO) rfl rfl rfl) rfl rfl rfl nN274 hO ⟨_, _, rfl, kv_argr 0, _, _, rfl, kv_arg _, _, _, rfl, kv_arg _, rfl⟩ (fun q hq => by cases hq) (fun v1 B1 I1 J1 hO1 hA1 hp1 hv1 => ?_)
  obtain ⟨x1, rfl, -, -⟩ := kvo_i hv1
  have h51 : npI [(186, 5, 0, 999)] I1 := npI_cg h5 (hA1.1 186 5 rfl).1
  refine sw_0 (pc' := 2170) (L' := lwL m) (st' := []) (M' := tMem B1 I1 J1) xl2169 rfl rfl ?_
  refine sw_0 (pc' := 2171) (L' := lwL m) (st' := [.ref 185]) (M' := tMem B1 I1 J1) xl2170 rfl rfl ?_
  refine sw_0 (pc' := 2172) (L' := lwL m) (st' := [.retAddr 0, .ref 185]) (M' := tMem B1 I1 J1) xl2171 rfl rfl ?_
  refine sw_0 (pc' := 2173) (L' := lwL m) (st' := [.int (Int32.ofNat m), .retAddr 0, .ref 185]) (M' := tMem B1 I1 J1) xl2172 rfl rfl ?_
  refine sw_0 (pc' := 2174) (L' := lwL m) (st' := [.int 1, .int (Int32.ofNat m), .retAddr 0, .ref 185]) (M' := tMem B1 I1 J1) xl2173 rfl rfl ?_
  refine sw_0 (pc' := 2175) (L' := lwL m) (st' := [.int (Int32.ofNat m + 1), .retAddr 0, .ref 185]) (M' := tMem B1 I1 J1) xl2174 rfl rfl ?_
  refine sw_ial xl2175 (show Int32.ofNat m + 1 = Int32.ofNat (m + 1) from oi_add (b := 1)) (by omega) hl ?_
  refine sw_0 (pc' := 2177) (L' := lwL m) (st' := [.retAddr 0, .int (sc.getD (m + 1) 0), .ref 185]) (M' := tMem B1 I1 J1) xl2176 rfl rfl ?_
  refine sw_0 (pc' := 2178) (L' := lwL m) (st' := [.int (Int32.ofNat m), .retAddr 0, .int (sc.getD (m + 1) 0), .ref 185]) (M' := tMem B1 I1 J1) xl2177 rfl rfl ?_
  refine sw_0 (pc' := 2179) (L' := lwL m) (st' := [.int 2, .int (Int32.ofNat m), .retAddr 0, .int (sc.getD (m + 1) 0), .ref 185]) (M' := tMem B1 I1 J1) xl2178 rfl rfl ?_
  refine sw_0 (pc' := 2180) (L' := lwL m) (st' := [.int (Int32.ofNat m + 2), .retAddr 0, .int (sc.getD (m + 1) 0), .ref 185]) (M' := tMem B1 I1 J1) xl2179 rfl rfl ?_
  refine sw_ial xl2180 (show Int32.ofNat m + 2 = Int32.ofNat (m + 2) from oi_add (b := 2)) (by omega) hl ?_
  refine lw_call0 (c := nc277) (as := [.ref 185, .int (sc.getD (m + 1) 0), .int (sc.getD (m + 2) 0)]) (rest := []) (r' := (xt_348, 6, 3)) xl2181 rfl rfl (lw_recv (c := 12) (pB_nok rfl hO1) rfl rfl rfl) rfl rfl rfl nN277 hO1 ⟨_, _, rfl, kv_argr 185, _, _, rfl, kv_arg _, _, _, rfl, kv_arg _, rfl⟩ h51 (fun v2 B2 I2 J2 hO2 hA2 hp2 hv2 => ?_)
  obtain ⟨x2, rfl, -, -⟩ := kvo_i hv2
  have h52 : npI [(186, 5, 0, 999)] I2 := hp2
  have hR1 := R7_ag hA1 (fun _ => ⟨rfl, rfl, rfl, rfl⟩) hR
  have hR2 := R7_ag hA2 (fun _ => ⟨rfl, rfl, rfl, rfl⟩) hR1
  refine sw_0 (pc' := 2185) (L' := lwL m) (st' := []) (M' := tMem B2 I2 J2) xl2184 rfl rfl ?_
  refine sw_0 (pc' := 2214) (L' := lwL m) (st' := []) (M' := tMem B2 I2 J2) xl2185 rfl rfl ?_
  exact hb B2 I2 J2 ⟨hO2, h52, hR2⟩ ⟨hA2.2.2.1.trans hA1.2.2.1, hA2.2.2.2.trans hA1.2.2.2⟩
set_option maxRecDepth 100000 in
theorem lwc58 {sc : List Int32} {B : xM} {I : tI} {J : tJ} {m : Nat} {Q : Option Value → xM → Prop} (hm : m + 6 ≤ sc.length) (hl : sc.length ≤ 3072) (hI : LInv R7 sc B I J) (hb : ∀ B' I' J', LInv R7 sc B' I' J' → kSz B B' → sw sc rLawX 2214 (lwL m) [] (tMem B' I' J') Q) : sw sc rLawX 2188 (lwL m) [] (tMem B I J) Q := by
  obtain ⟨hO, h5, hR⟩ := hI
  refine sw_0 (pc' := 2189) (L' := lwL m) (st' := [.ref 0]) (M' := tMem B I J) xl2188 rfl rfl ?_
  refine lw_call0 (c := nc284) (as := [.ref 0]) (rest := []) (r' := (xt_197, 1, 1)) xl2189 rfl rfl (lw_recv (c := 11) (pB_nok rfl hO) rfl rfl rfl) rfl rfl rfl nN284 hO ⟨_, _, rfl, kv_argr 0, rfl⟩ (fun q hq => by cases hq) (fun v1 B1 I1 J1 hO1 hA1 hp1 hv1 => ?_)
  obtain ⟨x1, rfl, -, -⟩ := kvo_i hv1
  have h51 : npI [(186, 5, 0, 999)] I1 := npI_cg h5 (hA1.1 186 5 rfl).1
  refine sw_0 (pc' := 2193) (L' := lwL m) (st' := []) (M' := tMem B1 I1 J1) xl2192 rfl rfl ?_
  refine sw_0 (pc' := 2194) (L' := lwL m) (st' := [.ref 185]) (M' := tMem B1 I1 J1) xl2193 rfl rfl ?_
  refine lw_call0 (c := nc286) (as := [.ref 185]) (rest := []) (r' := (xt_350, 1, 1)) xl2194 rfl rfl (lw_recv (c := 12) (pB_nok rfl hO1) rfl rfl rfl) rfl rfl rfl nN286 hO1 ⟨_, _, rfl, kv_argr 185, rfl⟩ h51 (fun v2 B2 I2 J2 hO2 hA2 hp2 hv2 => ?_)
  obtain ⟨x2, rfl, -, -⟩ := kvo_i hv2
  have h52 : npI [(186, 5, 0, 999)] I2 := hp2
  have hR1 := R7_ag hA1 (fun _ => ⟨rfl, rfl, rfl, rfl⟩) hR
  have hR2 := R7_ag hA2 (fun _ => ⟨rfl, rfl, rfl, rfl⟩) hR1
  refine sw_0 (pc' := 2198) (L' := lwL m) (st' := []) (M' := tMem B2 I2 J2) xl2197 rfl rfl ?_
  refine sw_0 (pc' := 2214) (L' := lwL m) (st' := []) (M' := tMem B2 I2 J2) xl2198 rfl rfl ?_
  exact hb B2 I2 J2 ⟨hO2, h52, hR2⟩ ⟨hA2.2.2.1.trans hA1.2.2.1, hA2.2.2.2.trans hA1.2.2.2⟩
set_option maxRecDepth 100000 in
theorem lwc59 {sc : List Int32} {B : xM} {I : tI} {J : tJ} {m : Nat} {Q : Option Value → xM → Prop} (hm : m + 6 ≤ sc.length) (hl : sc.length ≤ 3072) (hI : LInv R7 sc B I J) (hb : ∀ B' I' J', LInv R7 sc B' I' J' → kSz B B' → sw sc rLawX 2214 (lwL m) [] (tMem B' I' J') Q) : sw sc rLawX 2201 (lwL m) [] (tMem B I J) Q := by
  obtain ⟨hO, h5, hR⟩ := hI
  refine sw_0 (pc' := 2202) (L' := lwL m) (st' := [.ref 0]) (M' := tMem B I J) xl2201 rfl rfl ?_
  refine lw_call0 (c := nc293) (as := [.ref 0]) (rest := []) (r' := (xt_198, 1, 1)) xl2202 rfl rfl (lw_recv (c := 11) (pB_nok rfl hO) rfl rfl rfl) rfl rfl rfl nN293 hO ⟨_, _, rfl, kv_argr 0, rfl⟩ (fun q hq => by cases hq) (fun v1 B1 I1 J1 hO1 hA1 hp1 hv1 => ?_)
  obtain ⟨x1, rfl, -, -⟩ := kvo_i hv1
  have h51 : npI [(186, 5, 0, 999)] I1 := npI_cg h5 (hA1.1 186 5 rfl).1
  refine sw_0 (pc' := 2206) (L' := lwL m) (st' := []) (M' := tMem B1 I1 J1) xl2205 rfl rfl ?_
  refine sw_0 (pc' := 2207) (L' := lwL m) (st' := [.ref 185]) (M' := tMem B1 I1 J1) xl2206 rfl rfl ?_
  refine lw_call0 (c := nc295) (as := [.ref 185]) (rest := []) (r' := (xt_351, 1, 1)) xl2207 rfl rfl (lw_recv (c := 12) (pB_nok rfl hO1) rfl rfl rfl) rfl rfl rfl nN295 hO1 ⟨_, _, rfl, kv_argr 185, rfl⟩ h51 (fun v2 B2 I2 J2 hO2 hA2 hp2 hv2 => ?_)
  obtain ⟨x2, rfl, -, -⟩ := kvo_i hv2
  have h52 : npI [(186, 5, 0, 999)] I2 := hp2
  have hR1 := R7_ag hA1 (fun _ => ⟨rfl, rfl, rfl, rfl⟩) hR
  have hR2 := R7_ag hA2 (fun _ => ⟨rfl, rfl, rfl, rfl⟩) hR1
  refine sw_0 (pc' := 2211) (L' := lwL m) (st' := []) (M' := tMem B2 I2 J2) xl2210 rfl rfl ?_
  refine sw_0 (pc' := 2214) (L' := lwL m) (st' := []) (M' := tMem B2 I2 J2) xl2211 rfl rfl ?_
  exact hb B2 I2 J2 ⟨hO2, h52, hR2⟩ ⟨hA2.2.2.1.trans hA1.2.2.1, hA2.2.2.2.trans hA1.2.2.2⟩
theorem and63 (x : Int32) : ∃ k : Nat, k < 64 ∧ x &&& 63 = Int32.ofNat k := by
  have h1 : (x &&& 63).toBitVec.toNat = x.toBitVec.toNat % 64 := by
    rw [Int32.toBitVec_and, BitVec.toNat_and]
    exact Nat.and_two_pow_sub_one_eq_mod x.toBitVec.toNat 6
  refine ⟨x.toBitVec.toNat % 64, Nat.mod_lt _ (by omega), ?_⟩
  apply i32_eq
  rw [oi_int (by omega)]
  have e1 : (x &&& 63).toInt = (x &&& 63).toBitVec.toInt := rfl
  rw [e1, BitVec.toInt_eq_toNat_cond, h1, if_pos (by omega)]
set_option maxRecDepth 100000 in
/-- one round of the law's loop -/
theorem lw_round {sc : List Int32} {B : xM} {I : tI} {J : tJ} {m : Nat} {Q : Option Value → xM → Prop} (hm : m + 6 ≤ sc.length) (hl : sc.length ≤ 3072) (hI : LInv R7 sc B I J) (hb : ∀ B' I' J', LInv R7 sc B' I' J' → kSz B B' → sw sc rLawX 2214 (lwL m) [] (tMem B' I' J') Q) : sw sc rLawX 27 (lwL m) [] (tMem B I J) Q := by
  refine sw_seg 2 (pc' := 29) (L' := lwL m) (st' := [.int (Int32.ofNat m), .retAddr 0]) (M' := tMem B I J) (by with_unfolding_all rfl) ?_
  refine sw_ial (n := m) rfl rfl (by omega) hl ?_
  refine sw_seg 2 (pc' := 33) (L' := lwL m) (st' := [.int (sc.getD m 0 &&& 63)]) (M' := tMem B I J) (by with_unfolding_all rfl) ?_
  obtain ⟨k, hk, ek⟩ := and63 (sc.getD m 0)
  rw [ek]
  by_cases h60 : 60 ≤ k
  · refine sw_0 rfl rfl (?_ : x1 xty xdf sc _ 33 (lwL m) [.int (Int32.ofNat k)] (tMem B I J) = some (2214, lwL m, [], tMem B I J)) (hb B I J hI ⟨rfl, rfl⟩)
    rcases (by omega : k = 60 ∨ k = 61 ∨ k = 62 ∨ k = 63) with rfl | rfl | rfl | rfl <;> rfl
  have hlt : k < 60 := by omega
  clear ek h60
  by_cases h30 : k < 30
  ·
    by_cases h15 : k < 15
    ·
      by_cases h7 : k < 7
      ·
        by_cases h3 : k < 3
        ·
          by_cases h1 : k < 1
          ·
            have e : k = 0 := by omega
            subst e
            exact sw_0 rfl rfl (rfl : x1 xty xdf sc _ 33 (lwL m) [.int (Int32.ofNat 0)] (tMem B I J) = some (288, lwL m, [], tMem B I J)) (lwc0 hm hl hI hb)
          ·
            by_cases h2 : k < 2
            ·
              have e : k = 1 := by omega
              subst e
              exact sw_0 rfl rfl (rfl : x1 xty xdf sc _ 33 (lwL m) [.int (Int32.ofNat 1)] (tMem B I J) = some (301, lwL m, [], tMem B I J)) (lwc1 hm hl hI hb)
            ·
              have e : k = 2 := by omega
              subst e
              exact sw_0 rfl rfl (rfl : x1 xty xdf sc _ 33 (lwL m) [.int (Int32.ofNat 2)] (tMem B I J) = some (314, lwL m, [], tMem B I J)) (lwc2 hm hl hI hb)
        ·
          by_cases h5 : k < 5
          ·
            by_cases h4 : k < 4
            ·
              have e : k = 3 := by omega
              subst e
              exact sw_0 rfl rfl (rfl : x1 xty xdf sc _ 33 (lwL m) [.int (Int32.ofNat 3)] (tMem B I J) = some (327, lwL m, [], tMem B I J)) (lwc3 hm hl hI hb)
            ·
              have e : k = 4 := by omega
              subst e
              exact sw_0 rfl rfl (rfl : x1 xty xdf sc _ 33 (lwL m) [.int (Int32.ofNat 4)] (tMem B I J) = some (370, lwL m, [], tMem B I J)) (lwc4 hm hl hI hb)
          ·
            by_cases h6 : k < 6
            ·
              have e : k = 5 := by omega
              subst e
              exact sw_0 rfl rfl (rfl : x1 xty xdf sc _ 33 (lwL m) [.int (Int32.ofNat 5)] (tMem B I J) = some (443, lwL m, [], tMem B I J)) (lwc5 hm hl hI hb)
            ·
              have e : k = 6 := by omega
              subst e
              exact sw_0 rfl rfl (rfl : x1 xty xdf sc _ 33 (lwL m) [.int (Int32.ofNat 6)] (tMem B I J) = some (476, lwL m, [], tMem B I J)) (lwc6 hm hl hI hb)
      ·
        by_cases h11 : k < 11
        ·
          by_cases h9 : k < 9
          ·
            by_cases h8 : k < 8
            ·
              have e : k = 7 := by omega
              subst e
              exact sw_0 rfl rfl (rfl : x1 xty xdf sc _ 33 (lwL m) [.int (Int32.ofNat 7)] (tMem B I J) = some (539, lwL m, [], tMem B I J)) (lwc7 hm hl hI hb)
            ·
              have e : k = 8 := by omega
              subst e
              exact sw_0 rfl rfl (rfl : x1 xty xdf sc _ 33 (lwL m) [.int (Int32.ofNat 8)] (tMem B I J) = some (602, lwL m, [], tMem B I J)) (lwc8 hm hl hI hb)
          ·
            by_cases h10 : k < 10
            ·
              have e : k = 9 := by omega
              subst e
              exact sw_0 rfl rfl (rfl : x1 xty xdf sc _ 33 (lwL m) [.int (Int32.ofNat 9)] (tMem B I J) = some (625, lwL m, [], tMem B I J)) (lwc9 hm hl hI hb)
            ·
              have e : k = 10 := by omega
              subst e
              exact sw_0 rfl rfl (rfl : x1 xty xdf sc _ 33 (lwL m) [.int (Int32.ofNat 10)] (tMem B I J) = some (648, lwL m, [], tMem B I J)) (lwc10 hm hl hI hb)
        ·
          by_cases h13 : k < 13
          ·
            by_cases h12 : k < 12
            ·
              have e : k = 11 := by omega
              subst e
              exact sw_0 rfl rfl (rfl : x1 xty xdf sc _ 33 (lwL m) [.int (Int32.ofNat 11)] (tMem B I J) = some (671, lwL m, [], tMem B I J)) (lwc11 hm hl hI hb)
            ·
              have e : k = 12 := by omega
              subst e
              exact sw_0 rfl rfl (rfl : x1 xty xdf sc _ 33 (lwL m) [.int (Int32.ofNat 12)] (tMem B I J) = some (694, lwL m, [], tMem B I J)) (lwc12 hm hl hI hb)
          ·
            by_cases h14 : k < 14
            ·
              have e : k = 13 := by omega
              subst e
              exact sw_0 rfl rfl (rfl : x1 xty xdf sc _ 33 (lwL m) [.int (Int32.ofNat 13)] (tMem B I J) = some (727, lwL m, [], tMem B I J)) (lwc13 hm hl hI hb)
            ·
              have e : k = 14 := by omega
              subst e
              exact sw_0 rfl rfl (rfl : x1 xty xdf sc _ 33 (lwL m) [.int (Int32.ofNat 14)] (tMem B I J) = some (760, lwL m, [], tMem B I J)) (lwc14 hm hl hI hb)
    ·
      by_cases h22 : k < 22
      ·
        by_cases h18 : k < 18
        ·
          by_cases h16 : k < 16
          ·
            have e : k = 15 := by omega
            subst e
            exact sw_0 rfl rfl (rfl : x1 xty xdf sc _ 33 (lwL m) [.int (Int32.ofNat 15)] (tMem B I J) = some (793, lwL m, [], tMem B I J)) (lwc15 hm hl hI hb)
          ·
            by_cases h17 : k < 17
            ·
              have e : k = 16 := by omega
              subst e
              exact sw_0 rfl rfl (rfl : x1 xty xdf sc _ 33 (lwL m) [.int (Int32.ofNat 16)] (tMem B I J) = some (826, lwL m, [], tMem B I J)) (lwc16 hm hl hI hb)
            ·
              have e : k = 17 := by omega
              subst e
              exact sw_0 rfl rfl (rfl : x1 xty xdf sc _ 33 (lwL m) [.int (Int32.ofNat 17)] (tMem B I J) = some (859, lwL m, [], tMem B I J)) (lwc17 hm hl hI hb)
        ·
          by_cases h20 : k < 20
          ·
            by_cases h19 : k < 19
            ·
              have e : k = 18 := by omega
              subst e
              exact sw_0 rfl rfl (rfl : x1 xty xdf sc _ 33 (lwL m) [.int (Int32.ofNat 18)] (tMem B I J) = some (882, lwL m, [], tMem B I J)) (lwc18 hm hl hI hb)
            ·
              have e : k = 19 := by omega
              subst e
              exact sw_0 rfl rfl (rfl : x1 xty xdf sc _ 33 (lwL m) [.int (Int32.ofNat 19)] (tMem B I J) = some (905, lwL m, [], tMem B I J)) (lwc19 hm hl hI hb)
          ·
            by_cases h21 : k < 21
            ·
              have e : k = 20 := by omega
              subst e
              exact sw_0 rfl rfl (rfl : x1 xty xdf sc _ 33 (lwL m) [.int (Int32.ofNat 20)] (tMem B I J) = some (928, lwL m, [], tMem B I J)) (lwc20 hm hl hI hb)
            ·
              have e : k = 21 := by omega
              subst e
              exact sw_0 rfl rfl (rfl : x1 xty xdf sc _ 33 (lwL m) [.int (Int32.ofNat 21)] (tMem B I J) = some (961, lwL m, [], tMem B I J)) (lwc21 hm hl hI hb)
      ·
        by_cases h26 : k < 26
        ·
          by_cases h24 : k < 24
          ·
            by_cases h23 : k < 23
            ·
              have e : k = 22 := by omega
              subst e
              exact sw_0 rfl rfl (rfl : x1 xty xdf sc _ 33 (lwL m) [.int (Int32.ofNat 22)] (tMem B I J) = some (984, lwL m, [], tMem B I J)) (lwc22 hm hl hI hb)
            ·
              have e : k = 23 := by omega
              subst e
              exact sw_0 rfl rfl (rfl : x1 xty xdf sc _ 33 (lwL m) [.int (Int32.ofNat 23)] (tMem B I J) = some (1017, lwL m, [], tMem B I J)) (lwc23 hm hl hI hb)
          ·
            by_cases h25 : k < 25
            ·
              have e : k = 24 := by omega
              subst e
              exact sw_0 rfl rfl (rfl : x1 xty xdf sc _ 33 (lwL m) [.int (Int32.ofNat 24)] (tMem B I J) = some (1050, lwL m, [], tMem B I J)) (lwc24 hm hl hI hb)
            ·
              have e : k = 25 := by omega
              subst e
              exact sw_0 rfl rfl (rfl : x1 xty xdf sc _ 33 (lwL m) [.int (Int32.ofNat 25)] (tMem B I J) = some (1083, lwL m, [], tMem B I J)) (lwc25 hm hl hI hb)
        ·
          by_cases h28 : k < 28
          ·
            by_cases h27 : k < 27
            ·
              have e : k = 26 := by omega
              subst e
              exact sw_0 rfl rfl (rfl : x1 xty xdf sc _ 33 (lwL m) [.int (Int32.ofNat 26)] (tMem B I J) = some (1116, lwL m, [], tMem B I J)) (lwc26 hm hl hI hb)
            ·
              have e : k = 27 := by omega
              subst e
              exact sw_0 rfl rfl (rfl : x1 xty xdf sc _ 33 (lwL m) [.int (Int32.ofNat 27)] (tMem B I J) = some (1175, lwL m, [], tMem B I J)) (lwc27 hm hl hI hb)
          ·
            by_cases h29 : k < 29
            ·
              have e : k = 28 := by omega
              subst e
              exact sw_0 rfl rfl (rfl : x1 xty xdf sc _ 33 (lwL m) [.int (Int32.ofNat 28)] (tMem B I J) = some (1218, lwL m, [], tMem B I J)) (lwc28 hm hl hI hb)
            ·
              have e : k = 29 := by omega
              subst e
              exact sw_0 rfl rfl (rfl : x1 xty xdf sc _ 33 (lwL m) [.int (Int32.ofNat 29)] (tMem B I J) = some (1261, lwL m, [], tMem B I J)) (lwc29 hm hl hI hb)
  ·
    by_cases h45 : k < 45
    ·
      by_cases h37 : k < 37
      ·
        by_cases h33 : k < 33
        ·
          by_cases h31 : k < 31
          ·
            have e : k = 30 := by omega
            subst e
            exact sw_0 rfl rfl (rfl : x1 xty xdf sc _ 33 (lwL m) [.int (Int32.ofNat 30)] (tMem B I J) = some (1284, lwL m, [], tMem B I J)) (lwc30 hm hl hI hb)
          ·
            by_cases h32 : k < 32
            ·
              have e : k = 31 := by omega
              subst e
              exact sw_0 rfl rfl (rfl : x1 xty xdf sc _ 33 (lwL m) [.int (Int32.ofNat 31)] (tMem B I J) = some (1307, lwL m, [], tMem B I J)) (lwc31 hm hl hI hb)
            ·
              have e : k = 32 := by omega
              subst e
              exact sw_0 rfl rfl (rfl : x1 xty xdf sc _ 33 (lwL m) [.int (Int32.ofNat 32)] (tMem B I J) = some (1340, lwL m, [], tMem B I J)) (lwc32 hm hl hI hb)
        ·
          by_cases h35 : k < 35
          ·
            by_cases h34 : k < 34
            ·
              have e : k = 33 := by omega
              subst e
              exact sw_0 rfl rfl (rfl : x1 xty xdf sc _ 33 (lwL m) [.int (Int32.ofNat 33)] (tMem B I J) = some (1383, lwL m, [], tMem B I J)) (lwc33 hm hl hI hb)
            ·
              have e : k = 34 := by omega
              subst e
              exact sw_0 rfl rfl (rfl : x1 xty xdf sc _ 33 (lwL m) [.int (Int32.ofNat 34)] (tMem B I J) = some (1406, lwL m, [], tMem B I J)) (lwc34 hm hl hI hb)
          ·
            by_cases h36 : k < 36
            ·
              have e : k = 35 := by omega
              subst e
              exact sw_0 rfl rfl (rfl : x1 xty xdf sc _ 33 (lwL m) [.int (Int32.ofNat 35)] (tMem B I J) = some (1429, lwL m, [], tMem B I J)) (lwc35 hm hl hI hb)
            ·
              have e : k = 36 := by omega
              subst e
              exact sw_0 rfl rfl (rfl : x1 xty xdf sc _ 33 (lwL m) [.int (Int32.ofNat 36)] (tMem B I J) = some (1452, lwL m, [], tMem B I J)) (lwc36 hm hl hI hb)
      ·
        by_cases h41 : k < 41
        ·
          by_cases h39 : k < 39
          ·
            by_cases h38 : k < 38
            ·
              have e : k = 37 := by omega
              subst e
              exact sw_0 rfl rfl (rfl : x1 xty xdf sc _ 33 (lwL m) [.int (Int32.ofNat 37)] (tMem B I J) = some (1485, lwL m, [], tMem B I J)) (lwc37 hm hl hI hb)
            ·
              have e : k = 38 := by omega
              subst e
              exact sw_0 rfl rfl (rfl : x1 xty xdf sc _ 33 (lwL m) [.int (Int32.ofNat 38)] (tMem B I J) = some (1518, lwL m, [], tMem B I J)) (lwc38 hm hl hI hb)
          ·
            by_cases h40 : k < 40
            ·
              have e : k = 39 := by omega
              subst e
              exact sw_0 rfl rfl (rfl : x1 xty xdf sc _ 33 (lwL m) [.int (Int32.ofNat 39)] (tMem B I J) = some (1541, lwL m, [], tMem B I J)) (lwc39 hm hl hI hb)
            ·
              have e : k = 40 := by omega
              subst e
              exact sw_0 rfl rfl (rfl : x1 xty xdf sc _ 33 (lwL m) [.int (Int32.ofNat 40)] (tMem B I J) = some (1554, lwL m, [], tMem B I J)) (lwc40 hm hl hI hb)
        ·
          by_cases h43 : k < 43
          ·
            by_cases h42 : k < 42
            ·
              have e : k = 41 := by omega
              subst e
              exact sw_0 rfl rfl (rfl : x1 xty xdf sc _ 33 (lwL m) [.int (Int32.ofNat 41)] (tMem B I J) = some (1587, lwL m, [], tMem B I J)) (lwc41 hm hl hI hb)
            ·
              have e : k = 42 := by omega
              subst e
              exact sw_0 rfl rfl (rfl : x1 xty xdf sc _ 33 (lwL m) [.int (Int32.ofNat 42)] (tMem B I J) = some (1620, lwL m, [], tMem B I J)) (lwc42 hm hl hI hb)
          ·
            by_cases h44 : k < 44
            ·
              have e : k = 43 := by omega
              subst e
              exact sw_0 rfl rfl (rfl : x1 xty xdf sc _ 33 (lwL m) [.int (Int32.ofNat 43)] (tMem B I J) = some (1653, lwL m, [], tMem B I J)) (lwc43 hm hl hI hb)
            ·
              have e : k = 44 := by omega
              subst e
              exact sw_0 rfl rfl (rfl : x1 xty xdf sc _ 33 (lwL m) [.int (Int32.ofNat 44)] (tMem B I J) = some (1686, lwL m, [], tMem B I J)) (lwc44 hm hl hI hb)
    ·
      by_cases h52 : k < 52
      ·
        by_cases h48 : k < 48
        ·
          by_cases h46 : k < 46
          ·
            have e : k = 45 := by omega
            subst e
            exact sw_0 rfl rfl (rfl : x1 xty xdf sc _ 33 (lwL m) [.int (Int32.ofNat 45)] (tMem B I J) = some (1719, lwL m, [], tMem B I J)) (lwc45 hm hl hI hb)
          ·
            by_cases h47 : k < 47
            ·
              have e : k = 46 := by omega
              subst e
              exact sw_0 rfl rfl (rfl : x1 xty xdf sc _ 33 (lwL m) [.int (Int32.ofNat 46)] (tMem B I J) = some (1752, lwL m, [], tMem B I J)) (lwc46 hm hl hI hb)
            ·
              have e : k = 47 := by omega
              subst e
              exact sw_0 rfl rfl (rfl : x1 xty xdf sc _ 33 (lwL m) [.int (Int32.ofNat 47)] (tMem B I J) = some (1785, lwL m, [], tMem B I J)) (lwc47 hm hl hI hb)
        ·
          by_cases h50 : k < 50
          ·
            by_cases h49 : k < 49
            ·
              have e : k = 48 := by omega
              subst e
              exact sw_0 rfl rfl (rfl : x1 xty xdf sc _ 33 (lwL m) [.int (Int32.ofNat 48)] (tMem B I J) = some (1808, lwL m, [], tMem B I J)) (lwc48 hm hl hI hb)
            ·
              have e : k = 49 := by omega
              subst e
              exact sw_0 rfl rfl (rfl : x1 xty xdf sc _ 33 (lwL m) [.int (Int32.ofNat 49)] (tMem B I J) = some (1831, lwL m, [], tMem B I J)) (lwc49 hm hl hI hb)
          ·
            by_cases h51 : k < 51
            ·
              have e : k = 50 := by omega
              subst e
              exact sw_0 rfl rfl (rfl : x1 xty xdf sc _ 33 (lwL m) [.int (Int32.ofNat 50)] (tMem B I J) = some (1874, lwL m, [], tMem B I J)) (lwc50 hm hl hI hb)
            ·
              have e : k = 51 := by omega
              subst e
              exact sw_0 rfl rfl (rfl : x1 xty xdf sc _ 33 (lwL m) [.int (Int32.ofNat 51)] (tMem B I J) = some (1927, lwL m, [], tMem B I J)) (lwc51 hm hl hI hb)
      ·
        by_cases h56 : k < 56
        ·
          by_cases h54 : k < 54
          ·
            by_cases h53 : k < 53
            ·
              have e : k = 52 := by omega
              subst e
              exact sw_0 rfl rfl (rfl : x1 xty xdf sc _ 33 (lwL m) [.int (Int32.ofNat 52)] (tMem B I J) = some (1960, lwL m, [], tMem B I J)) (lwc52 hm hl hI hb)
            ·
              have e : k = 53 := by omega
              subst e
              exact sw_0 rfl rfl (rfl : x1 xty xdf sc _ 33 (lwL m) [.int (Int32.ofNat 53)] (tMem B I J) = some (2003, lwL m, [], tMem B I J)) (lwc53 hm hl hI hb)
          ·
            by_cases h55 : k < 55
            ·
              have e : k = 54 := by omega
              subst e
              exact sw_0 rfl rfl (rfl : x1 xty xdf sc _ 33 (lwL m) [.int (Int32.ofNat 54)] (tMem B I J) = some (2066, lwL m, [], tMem B I J)) (lwc54 hm hl hI hb)
            ·
              have e : k = 55 := by omega
              subst e
              exact sw_0 rfl rfl (rfl : x1 xty xdf sc _ 33 (lwL m) [.int (Int32.ofNat 55)] (tMem B I J) = some (2109, lwL m, [], tMem B I J)) (lwc55 hm hl hI hb)
        ·
          by_cases h58 : k < 58
          ·
            by_cases h57 : k < 57
            ·
              have e : k = 56 := by omega
              subst e
              exact sw_0 rfl rfl (rfl : x1 xty xdf sc _ 33 (lwL m) [.int (Int32.ofNat 56)] (tMem B I J) = some (2132, lwL m, [], tMem B I J)) (lwc56 hm hl hI hb)
            ·
              have e : k = 57 := by omega
              subst e
              exact sw_0 rfl rfl (rfl : x1 xty xdf sc _ 33 (lwL m) [.int (Int32.ofNat 57)] (tMem B I J) = some (2155, lwL m, [], tMem B I J)) (lwc57 hm hl hI hb)
          ·
            by_cases h59 : k < 59
            ·
              have e : k = 58 := by omega
              subst e
              exact sw_0 rfl rfl (rfl : x1 xty xdf sc _ 33 (lwL m) [.int (Int32.ofNat 58)] (tMem B I J) = some (2188, lwL m, [], tMem B I J)) (lwc58 hm hl hI hb)
            ·
              have e : k = 59 := by omega
              subst e
              exact sw_0 rfl rfl (rfl : x1 xty xdf sc _ 33 (lwL m) [.int (Int32.ofNat 59)] (tMem B I J) = some (2201, lwL m, [], tMem B I J)) (lwc59 hm hl hI hb)

set_option maxRecDepth 100000 in
theorem lw_loop {sc : List Int32} (hl : sc.length ≤ 3072) {B0 : xM} : ∀ (d m : Nat) {B : xM} {I : tI} {J : tJ}, 3078 ≤ m + d → m ≤ 3078 → LInv R7 sc B I J → kSz B0 B → sw sc rLawX 18 (lwL m) [] (tMem B I J) (fun v M' => v = some (.int 1) ∧ ∃ B' I' J', M' = tMem B' I' J' ∧ kSz B0 B')
  | d, m, B, I, J, hd, hm8, hI, hz => by
    refine sw_seg 1 (pc' := 19) (L' := lwL m) (st' := [.int (Int32.ofNat m)]) (M' := tMem B I J) (by with_unfolding_all rfl) ?_
    refine sw_seg 1 (pc' := 20) (L' := lwL m) (st' := [.retAddr 0, .int (Int32.ofNat m)]) (M' := tMem B I J) (by with_unfolding_all rfl) ?_
    refine sw_0 rfl rfl (rfl : x1 xty xdf sc _ 20 (lwL m) [.retAddr 0, .int (Int32.ofNat m)] (tMem B I J) = some (21, lwL m, [.int (Int32.ofNat sc.length), .int (Int32.ofNat m)], tMem B I J)) ?_
    refine sw_seg 2 (pc' := 24) (L' := lwL m) (st' := [.int (Int32.ofNat sc.length - 6), .int (Int32.ofNat m)]) (M' := tMem B I J) (by with_unfolding_all rfl) ?_
    have e6 : (Int32.ofNat sc.length - 6).toInt = (sc.length : Int) - 6 := by
      have z6 : (6 : Int32).toInt = 6 := rfl
      rw [ti_sub (by rw [oi_int (by omega), z6]; omega) (by rw [oi_int (by omega), z6]; omega), oi_int (by omega), z6]
    have hc : xcmp .gt (Int32.ofNat m) (Int32.ofNat sc.length - 6) = decide (sc.length < m + 6) := by
      rw [tc_gt, e6, oi_int (by omega)]
      exact decide_eq_decide.mpr (by omega)
    by_cases hend : sc.length < m + 6
    · refine sw_cmp (p := 2220) rfl (by rw [hc, decide_eq_true hend]; rfl) ?_
      refine sw_seg 1 (pc' := 2220 + 1) (L' := lwL m) (st' := [.int 1]) (M' := tMem B I J) (by with_unfolding_all rfl) ?_
      exact sw_2 (v := some (.int 1)) rfl rfl (by with_unfolding_all rfl) ⟨rfl, B, I, J, rfl, hz⟩
    · refine sw_cmp (p := 27) rfl (by rw [hc, decide_eq_false hend]; rfl) ?_
      refine lw_round (by omega) hl hI (fun B' I' J' hI' hz' => ?_)
      refine sw_seg 1 (pc' := 2214 + 3) (L' := (3, .int (Int32.ofNat m + 6)) :: [(2, .ref 185), (1, .ref 0), (0, .retAddr 0)]) (st' := []) (M' := tMem B' I' J') (by with_unfolding_all rfl) ?_
      refine sw_seg 1 (pc' := 18) (L' := lwL (m + 6)) (st' := []) (M' := tMem B' I' J') (by rw [show Int32.ofNat m + 6 = Int32.ofNat (m + 6) from oi_add (b := 6)]; with_unfolding_all rfl) ?_
      match d with
      | 0 => exact absurd hend (by omega)
      | d + 1 => exact lw_loop hl d (m + 6) (by omega) (by omega) hI' ⟨hz'.1.trans hz.1, hz'.2.trans hz.2⟩
