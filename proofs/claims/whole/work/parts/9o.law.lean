/-! ===== the law ===== -/
def zR (q : tQ) (M : zf_M) : Prop := vQ q ∧ zPk M ∧ zKC q M ∧ zKM q M
section ZLa
variable {X : zf_X} {M : zf_M} {Q : Option Value → zf_M → Prop} {q : tQ} {i : Nat}
theorem wL_29 {s0 : Int32} {ls : List Slot} {st : List Value} (hP : zPk M) : zW X 1000 29 ls (.int s0 :: .ref 1000002 :: st) M Q ↔ vp_in s0 X.1 ∧ zW X 1000 30 ls (.int (X.2 s0.toNatClampNeg) :: st) M Q := zr_ix hP (by decide) rfl zf_g1000 dL_law_29
theorem wL_189 {s0 : Int32} {ls : List Slot} {st : List Value} (hP : zPk M) : zW X 1000 189 ls (.int s0 :: .ref 1000002 :: st) M Q ↔ vp_in s0 X.1 ∧ zW X 1000 190 ls (.int (X.2 s0.toNatClampNeg) :: st) M Q := zr_ix hP (by decide) rfl zf_g1000 dL_law_189
theorem wL_194 {s0 : Int32} {ls : List Slot} {st : List Value} (hP : zPk M) : zW X 1000 194 ls (.int s0 :: .ref 1000002 :: st) M Q ↔ vp_in s0 X.1 ∧ zW X 1000 195 ls (.int (X.2 s0.toNatClampNeg) :: st) M Q := zr_ix hP (by decide) rfl zf_g1000 dL_law_194
theorem wL_199 {s0 : Int32} {ls : List Slot} {st : List Value} (hP : zPk M) : zW X 1000 199 ls (.int s0 :: .ref 1000002 :: st) M Q ↔ vp_in s0 X.1 ∧ zW X 1000 200 ls (.int (X.2 s0.toNatClampNeg) :: st) M Q := zr_ix hP (by decide) rfl zf_g1000 dL_law_199
theorem wL_204 {s0 : Int32} {ls : List Slot} {st : List Value} (hP : zPk M) : zW X 1000 204 ls (.int s0 :: .ref 1000002 :: st) M Q ↔ vp_in s0 X.1 ∧ zW X 1000 205 ls (.int (X.2 s0.toNatClampNeg) :: st) M Q := zr_ix hP (by decide) rfl zf_g1000 dL_law_204
theorem wL_209 {s0 : Int32} {ls : List Slot} {st : List Value} (hP : zPk M) : zW X 1000 209 ls (.int s0 :: .ref 1000002 :: st) M Q ↔ vp_in s0 X.1 ∧ zW X 1000 210 ls (.int (X.2 s0.toNatClampNeg) :: st) M Q := zr_ix hP (by decide) rfl zf_g1000 dL_law_209
theorem wL_215 {s0 : Int32} {ls : List Slot} {st : List Value} (hP : zPk M) : zW X 1000 215 ls (.int s0 :: .ref 1000002 :: st) M Q ↔ vp_in s0 X.1 ∧ zW X 1000 216 ls (.int (X.2 s0.toNatClampNeg) :: st) M Q := zr_ix hP (by decide) rfl zf_g1000 dL_law_215
theorem wL_224 {s0 : Int32} {ls : List Slot} {st : List Value} (hP : zPk M) : zW X 1000 224 ls (.int s0 :: .ref 1000002 :: st) M Q ↔ vp_in s0 X.1 ∧ zW X 1000 225 ls (.int (X.2 s0.toNatClampNeg) :: st) M Q := zr_ix hP (by decide) rfl zf_g1000 dL_law_224
theorem wL_229 {s0 : Int32} {ls : List Slot} {st : List Value} (hP : zPk M) : zW X 1000 229 ls (.int s0 :: .ref 1000002 :: st) M Q ↔ vp_in s0 X.1 ∧ zW X 1000 230 ls (.int (X.2 s0.toNatClampNeg) :: st) M Q := zr_ix hP (by decide) rfl zf_g1000 dL_law_229
theorem wL_234 {s0 : Int32} {ls : List Slot} {st : List Value} (hP : zPk M) : zW X 1000 234 ls (.int s0 :: .ref 1000002 :: st) M Q ↔ vp_in s0 X.1 ∧ zW X 1000 235 ls (.int (X.2 s0.toNatClampNeg) :: st) M Q := zr_ix hP (by decide) rfl zf_g1000 dL_law_234
theorem wL_239 {s0 : Int32} {ls : List Slot} {st : List Value} (hP : zPk M) : zW X 1000 239 ls (.int s0 :: .ref 1000002 :: st) M Q ↔ vp_in s0 X.1 ∧ zW X 1000 240 ls (.int (X.2 s0.toNatClampNeg) :: st) M Q := zr_ix hP (by decide) rfl zf_g1000 dL_law_239
theorem wL_244 {s0 : Int32} {ls : List Slot} {st : List Value} (hP : zPk M) : zW X 1000 244 ls (.int s0 :: .ref 1000002 :: st) M Q ↔ vp_in s0 X.1 ∧ zW X 1000 245 ls (.int (X.2 s0.toNatClampNeg) :: st) M Q := zr_ix hP (by decide) rfl zf_g1000 dL_law_244
theorem wL_250 {s0 : Int32} {ls : List Slot} {st : List Value} (hP : zPk M) : zW X 1000 250 ls (.int s0 :: .ref 1000002 :: st) M Q ↔ vp_in s0 X.1 ∧ zW X 1000 251 ls (.int (X.2 s0.toNatClampNeg) :: st) M Q := zr_ix hP (by decide) rfl zf_g1000 dL_law_250
theorem wL_264 {s0 : Int32} {ls : List Slot} {st : List Value} (hP : zPk M) : zW X 1000 264 ls (.int s0 :: .ref 1000002 :: st) M Q ↔ vp_in s0 X.1 ∧ zW X 1000 265 ls (.int (X.2 s0.toNatClampNeg) :: st) M Q := zr_ix hP (by decide) rfl zf_g1000 dL_law_264
theorem wL_269 {s0 : Int32} {ls : List Slot} {st : List Value} (hP : zPk M) : zW X 1000 269 ls (.int s0 :: .ref 1000002 :: st) M Q ↔ vp_in s0 X.1 ∧ zW X 1000 270 ls (.int (X.2 s0.toNatClampNeg) :: st) M Q := zr_ix hP (by decide) rfl zf_g1000 dL_law_269
theorem wL_278 {s0 : Int32} {ls : List Slot} {st : List Value} (hP : zPk M) : zW X 1000 278 ls (.int s0 :: .ref 1000002 :: st) M Q ↔ vp_in s0 X.1 ∧ zW X 1000 279 ls (.int (X.2 s0.toNatClampNeg) :: st) M Q := zr_ix hP (by decide) rfl zf_g1000 dL_law_278
theorem wL_283 {s0 : Int32} {ls : List Slot} {st : List Value} (hP : zPk M) : zW X 1000 283 ls (.int s0 :: .ref 1000002 :: st) M Q ↔ vp_in s0 X.1 ∧ zW X 1000 284 ls (.int (X.2 s0.toNatClampNeg) :: st) M Q := zr_ix hP (by decide) rfl zf_g1000 dL_law_283
theorem wL_297 {s0 : Int32} {ls : List Slot} {st : List Value} (hP : zPk M) : zW X 1000 297 ls (.int s0 :: .ref 1000002 :: st) M Q ↔ vp_in s0 X.1 ∧ zW X 1000 298 ls (.int (X.2 s0.toNatClampNeg) :: st) M Q := zr_ix hP (by decide) rfl zf_g1000 dL_law_297
theorem wL_302 {s0 : Int32} {ls : List Slot} {st : List Value} (hP : zPk M) : zW X 1000 302 ls (.int s0 :: .ref 1000002 :: st) M Q ↔ vp_in s0 X.1 ∧ zW X 1000 303 ls (.int (X.2 s0.toNatClampNeg) :: st) M Q := zr_ix hP (by decide) rfl zf_g1000 dL_law_302
theorem wL_307 {s0 : Int32} {ls : List Slot} {st : List Value} (hP : zPk M) : zW X 1000 307 ls (.int s0 :: .ref 1000002 :: st) M Q ↔ vp_in s0 X.1 ∧ zW X 1000 308 ls (.int (X.2 s0.toNatClampNeg) :: st) M Q := zr_ix hP (by decide) rfl zf_g1000 dL_law_307
theorem wL_316 {s0 : Int32} {ls : List Slot} {st : List Value} (hP : zPk M) : zW X 1000 316 ls (.int s0 :: .ref 1000002 :: st) M Q ↔ vp_in s0 X.1 ∧ zW X 1000 317 ls (.int (X.2 s0.toNatClampNeg) :: st) M Q := zr_ix hP (by decide) rfl zf_g1000 dL_law_316
theorem wL_321 {s0 : Int32} {ls : List Slot} {st : List Value} (hP : zPk M) : zW X 1000 321 ls (.int s0 :: .ref 1000002 :: st) M Q ↔ vp_in s0 X.1 ∧ zW X 1000 322 ls (.int (X.2 s0.toNatClampNeg) :: st) M Q := zr_ix hP (by decide) rfl zf_g1000 dL_law_321
theorem wL_326 {s0 : Int32} {ls : List Slot} {st : List Value} (hP : zPk M) : zW X 1000 326 ls (.int s0 :: .ref 1000002 :: st) M Q ↔ vp_in s0 X.1 ∧ zW X 1000 327 ls (.int (X.2 s0.toNatClampNeg) :: st) M Q := zr_ix hP (by decide) rfl zf_g1000 dL_law_326
theorem wL_340 {s0 : Int32} {ls : List Slot} {st : List Value} (hP : zPk M) : zW X 1000 340 ls (.int s0 :: .ref 1000002 :: st) M Q ↔ vp_in s0 X.1 ∧ zW X 1000 341 ls (.int (X.2 s0.toNatClampNeg) :: st) M Q := zr_ix hP (by decide) rfl zf_g1000 dL_law_340
theorem wL_345 {s0 : Int32} {ls : List Slot} {st : List Value} (hP : zPk M) : zW X 1000 345 ls (.int s0 :: .ref 1000002 :: st) M Q ↔ vp_in s0 X.1 ∧ zW X 1000 346 ls (.int (X.2 s0.toNatClampNeg) :: st) M Q := zr_ix hP (by decide) rfl zf_g1000 dL_law_345
theorem wL_350 {s0 : Int32} {ls : List Slot} {st : List Value} (hP : zPk M) : zW X 1000 350 ls (.int s0 :: .ref 1000002 :: st) M Q ↔ vp_in s0 X.1 ∧ zW X 1000 351 ls (.int (X.2 s0.toNatClampNeg) :: st) M Q := zr_ix hP (by decide) rfl zf_g1000 dL_law_350
theorem wL_355 {s0 : Int32} {ls : List Slot} {st : List Value} (hP : zPk M) : zW X 1000 355 ls (.int s0 :: .ref 1000002 :: st) M Q ↔ vp_in s0 X.1 ∧ zW X 1000 356 ls (.int (X.2 s0.toNatClampNeg) :: st) M Q := zr_ix hP (by decide) rfl zf_g1000 dL_law_355
theorem wL_364 {s0 : Int32} {ls : List Slot} {st : List Value} (hP : zPk M) : zW X 1000 364 ls (.int s0 :: .ref 1000002 :: st) M Q ↔ vp_in s0 X.1 ∧ zW X 1000 365 ls (.int (X.2 s0.toNatClampNeg) :: st) M Q := zr_ix hP (by decide) rfl zf_g1000 dL_law_364
theorem wL_369 {s0 : Int32} {ls : List Slot} {st : List Value} (hP : zPk M) : zW X 1000 369 ls (.int s0 :: .ref 1000002 :: st) M Q ↔ vp_in s0 X.1 ∧ zW X 1000 370 ls (.int (X.2 s0.toNatClampNeg) :: st) M Q := zr_ix hP (by decide) rfl zf_g1000 dL_law_369
theorem wL_374 {s0 : Int32} {ls : List Slot} {st : List Value} (hP : zPk M) : zW X 1000 374 ls (.int s0 :: .ref 1000002 :: st) M Q ↔ vp_in s0 X.1 ∧ zW X 1000 375 ls (.int (X.2 s0.toNatClampNeg) :: st) M Q := zr_ix hP (by decide) rfl zf_g1000 dL_law_374
theorem wL_379 {s0 : Int32} {ls : List Slot} {st : List Value} (hP : zPk M) : zW X 1000 379 ls (.int s0 :: .ref 1000002 :: st) M Q ↔ vp_in s0 X.1 ∧ zW X 1000 380 ls (.int (X.2 s0.toNatClampNeg) :: st) M Q := zr_ix hP (by decide) rfl zf_g1000 dL_law_379
theorem wL_393 {s0 : Int32} {ls : List Slot} {st : List Value} (hP : zPk M) : zW X 1000 393 ls (.int s0 :: .ref 1000002 :: st) M Q ↔ vp_in s0 X.1 ∧ zW X 1000 394 ls (.int (X.2 s0.toNatClampNeg) :: st) M Q := zr_ix hP (by decide) rfl zf_g1000 dL_law_393
theorem wL_398 {s0 : Int32} {ls : List Slot} {st : List Value} (hP : zPk M) : zW X 1000 398 ls (.int s0 :: .ref 1000002 :: st) M Q ↔ vp_in s0 X.1 ∧ zW X 1000 399 ls (.int (X.2 s0.toNatClampNeg) :: st) M Q := zr_ix hP (by decide) rfl zf_g1000 dL_law_398
theorem wL_407 {s0 : Int32} {ls : List Slot} {st : List Value} (hP : zPk M) : zW X 1000 407 ls (.int s0 :: .ref 1000002 :: st) M Q ↔ vp_in s0 X.1 ∧ zW X 1000 408 ls (.int (X.2 s0.toNatClampNeg) :: st) M Q := zr_ix hP (by decide) rfl zf_g1000 dL_law_407
theorem wL_412 {s0 : Int32} {ls : List Slot} {st : List Value} (hP : zPk M) : zW X 1000 412 ls (.int s0 :: .ref 1000002 :: st) M Q ↔ vp_in s0 X.1 ∧ zW X 1000 413 ls (.int (X.2 s0.toNatClampNeg) :: st) M Q := zr_ix hP (by decide) rfl zf_g1000 dL_law_412
theorem wL_426 {s0 : Int32} {ls : List Slot} {st : List Value} (hP : zPk M) : zW X 1000 426 ls (.int s0 :: .ref 1000002 :: st) M Q ↔ vp_in s0 X.1 ∧ zW X 1000 427 ls (.int (X.2 s0.toNatClampNeg) :: st) M Q := zr_ix hP (by decide) rfl zf_g1000 dL_law_426
theorem wL_431 {s0 : Int32} {ls : List Slot} {st : List Value} (hP : zPk M) : zW X 1000 431 ls (.int s0 :: .ref 1000002 :: st) M Q ↔ vp_in s0 X.1 ∧ zW X 1000 432 ls (.int (X.2 s0.toNatClampNeg) :: st) M Q := zr_ix hP (by decide) rfl zf_g1000 dL_law_431
theorem wL_436 {s0 : Int32} {ls : List Slot} {st : List Value} (hP : zPk M) : zW X 1000 436 ls (.int s0 :: .ref 1000002 :: st) M Q ↔ vp_in s0 X.1 ∧ zW X 1000 437 ls (.int (X.2 s0.toNatClampNeg) :: st) M Q := zr_ix hP (by decide) rfl zf_g1000 dL_law_436
theorem wL_445 {s0 : Int32} {ls : List Slot} {st : List Value} (hP : zPk M) : zW X 1000 445 ls (.int s0 :: .ref 1000002 :: st) M Q ↔ vp_in s0 X.1 ∧ zW X 1000 446 ls (.int (X.2 s0.toNatClampNeg) :: st) M Q := zr_ix hP (by decide) rfl zf_g1000 dL_law_445
theorem wL_450 {s0 : Int32} {ls : List Slot} {st : List Value} (hP : zPk M) : zW X 1000 450 ls (.int s0 :: .ref 1000002 :: st) M Q ↔ vp_in s0 X.1 ∧ zW X 1000 451 ls (.int (X.2 s0.toNatClampNeg) :: st) M Q := zr_ix hP (by decide) rfl zf_g1000 dL_law_450
theorem wL_455 {s0 : Int32} {ls : List Slot} {st : List Value} (hP : zPk M) : zW X 1000 455 ls (.int s0 :: .ref 1000002 :: st) M Q ↔ vp_in s0 X.1 ∧ zW X 1000 456 ls (.int (X.2 s0.toNatClampNeg) :: st) M Q := zr_ix hP (by decide) rfl zf_g1000 dL_law_455
theorem wL_496 {s0 : Int32} {ls : List Slot} {st : List Value} (hP : zPk M) : zW X 1000 496 ls (.int s0 :: .ref 1000002 :: st) M Q ↔ vp_in s0 X.1 ∧ zW X 1000 497 ls (.int (X.2 s0.toNatClampNeg) :: st) M Q := zr_ix hP (by decide) rfl zf_g1000 dL_law_496
theorem wL_505 {s0 : Int32} {ls : List Slot} {st : List Value} (hP : zPk M) : zW X 1000 505 ls (.int s0 :: .ref 1000002 :: st) M Q ↔ vp_in s0 X.1 ∧ zW X 1000 506 ls (.int (X.2 s0.toNatClampNeg) :: st) M Q := zr_ix hP (by decide) rfl zf_g1000 dL_law_505
theorem wL_533 {s0 : Int32} {ls : List Slot} {st : List Value} (hP : zPk M) : zW X 1000 533 ls (.int s0 :: .ref 1000002 :: st) M Q ↔ vp_in s0 X.1 ∧ zW X 1000 534 ls (.int (X.2 s0.toNatClampNeg) :: st) M Q := zr_ix hP (by decide) rfl zf_g1000 dL_law_533
theorem wL_538 {s0 : Int32} {ls : List Slot} {st : List Value} (hP : zPk M) : zW X 1000 538 ls (.int s0 :: .ref 1000002 :: st) M Q ↔ vp_in s0 X.1 ∧ zW X 1000 539 ls (.int (X.2 s0.toNatClampNeg) :: st) M Q := zr_ix hP (by decide) rfl zf_g1000 dL_law_538
theorem wL_543 {s0 : Int32} {ls : List Slot} {st : List Value} (hP : zPk M) : zW X 1000 543 ls (.int s0 :: .ref 1000002 :: st) M Q ↔ vp_in s0 X.1 ∧ zW X 1000 544 ls (.int (X.2 s0.toNatClampNeg) :: st) M Q := zr_ix hP (by decide) rfl zf_g1000 dL_law_543
theorem wL_548 {s0 : Int32} {ls : List Slot} {st : List Value} (hP : zPk M) : zW X 1000 548 ls (.int s0 :: .ref 1000002 :: st) M Q ↔ vp_in s0 X.1 ∧ zW X 1000 549 ls (.int (X.2 s0.toNatClampNeg) :: st) M Q := zr_ix hP (by decide) rfl zf_g1000 dL_law_548
theorem wL_557 {s0 : Int32} {ls : List Slot} {st : List Value} (hP : zPk M) : zW X 1000 557 ls (.int s0 :: .ref 1000002 :: st) M Q ↔ vp_in s0 X.1 ∧ zW X 1000 558 ls (.int (X.2 s0.toNatClampNeg) :: st) M Q := zr_ix hP (by decide) rfl zf_g1000 dL_law_557
theorem wL_562 {s0 : Int32} {ls : List Slot} {st : List Value} (hP : zPk M) : zW X 1000 562 ls (.int s0 :: .ref 1000002 :: st) M Q ↔ vp_in s0 X.1 ∧ zW X 1000 563 ls (.int (X.2 s0.toNatClampNeg) :: st) M Q := zr_ix hP (by decide) rfl zf_g1000 dL_law_562
theorem wL_567 {s0 : Int32} {ls : List Slot} {st : List Value} (hP : zPk M) : zW X 1000 567 ls (.int s0 :: .ref 1000002 :: st) M Q ↔ vp_in s0 X.1 ∧ zW X 1000 568 ls (.int (X.2 s0.toNatClampNeg) :: st) M Q := zr_ix hP (by decide) rfl zf_g1000 dL_law_567
theorem wL_572 {s0 : Int32} {ls : List Slot} {st : List Value} (hP : zPk M) : zW X 1000 572 ls (.int s0 :: .ref 1000002 :: st) M Q ↔ vp_in s0 X.1 ∧ zW X 1000 573 ls (.int (X.2 s0.toNatClampNeg) :: st) M Q := zr_ix hP (by decide) rfl zf_g1000 dL_law_572
theorem wL_600 {s0 : Int32} {ls : List Slot} {st : List Value} (hP : zPk M) : zW X 1000 600 ls (.int s0 :: .ref 1000002 :: st) M Q ↔ vp_in s0 X.1 ∧ zW X 1000 601 ls (.int (X.2 s0.toNatClampNeg) :: st) M Q := zr_ix hP (by decide) rfl zf_g1000 dL_law_600
theorem wL_609 {s0 : Int32} {ls : List Slot} {st : List Value} (hP : zPk M) : zW X 1000 609 ls (.int s0 :: .ref 1000002 :: st) M Q ↔ vp_in s0 X.1 ∧ zW X 1000 610 ls (.int (X.2 s0.toNatClampNeg) :: st) M Q := zr_ix hP (by decide) rfl zf_g1000 dL_law_609
theorem wL_624 {s0 : Int32} {ls : List Slot} {st : List Value} (hP : zPk M) : zW X 1000 624 ls (.int s0 :: .ref 1000002 :: st) M Q ↔ vp_in s0 X.1 ∧ zW X 1000 625 ls (.int (X.2 s0.toNatClampNeg) :: st) M Q := zr_ix hP (by decide) rfl zf_g1000 dL_law_624
theorem wL_629 {s0 : Int32} {ls : List Slot} {st : List Value} (hP : zPk M) : zW X 1000 629 ls (.int s0 :: .ref 1000002 :: st) M Q ↔ vp_in s0 X.1 ∧ zW X 1000 630 ls (.int (X.2 s0.toNatClampNeg) :: st) M Q := zr_ix hP (by decide) rfl zf_g1000 dL_law_629
theorem wL_638 {s0 : Int32} {ls : List Slot} {st : List Value} (hP : zPk M) : zW X 1000 638 ls (.int s0 :: .ref 1000002 :: st) M Q ↔ vp_in s0 X.1 ∧ zW X 1000 639 ls (.int (X.2 s0.toNatClampNeg) :: st) M Q := zr_ix hP (by decide) rfl zf_g1000 dL_law_638
theorem wL_643 {s0 : Int32} {ls : List Slot} {st : List Value} (hP : zPk M) : zW X 1000 643 ls (.int s0 :: .ref 1000002 :: st) M Q ↔ vp_in s0 X.1 ∧ zW X 1000 644 ls (.int (X.2 s0.toNatClampNeg) :: st) M Q := zr_ix hP (by decide) rfl zf_g1000 dL_law_643
theorem wL_657 {s0 : Int32} {ls : List Slot} {st : List Value} (hP : zPk M) : zW X 1000 657 ls (.int s0 :: .ref 1000002 :: st) M Q ↔ vp_in s0 X.1 ∧ zW X 1000 658 ls (.int (X.2 s0.toNatClampNeg) :: st) M Q := zr_ix hP (by decide) rfl zf_g1000 dL_law_657
theorem wL_666 {s0 : Int32} {ls : List Slot} {st : List Value} (hP : zPk M) : zW X 1000 666 ls (.int s0 :: .ref 1000002 :: st) M Q ↔ vp_in s0 X.1 ∧ zW X 1000 667 ls (.int (X.2 s0.toNatClampNeg) :: st) M Q := zr_ix hP (by decide) rfl zf_g1000 dL_law_666
theorem wL_680 {s0 : Int32} {ls : List Slot} {st : List Value} (hP : zPk M) : zW X 1000 680 ls (.int s0 :: .ref 1000002 :: st) M Q ↔ vp_in s0 X.1 ∧ zW X 1000 681 ls (.int (X.2 s0.toNatClampNeg) :: st) M Q := zr_ix hP (by decide) rfl zf_g1000 dL_law_680
theorem wL_689 {s0 : Int32} {ls : List Slot} {st : List Value} (hP : zPk M) : zW X 1000 689 ls (.int s0 :: .ref 1000002 :: st) M Q ↔ vp_in s0 X.1 ∧ zW X 1000 690 ls (.int (X.2 s0.toNatClampNeg) :: st) M Q := zr_ix hP (by decide) rfl zf_g1000 dL_law_689
theorem wL_703 {s0 : Int32} {ls : List Slot} {st : List Value} (hP : zPk M) : zW X 1000 703 ls (.int s0 :: .ref 1000002 :: st) M Q ↔ vp_in s0 X.1 ∧ zW X 1000 704 ls (.int (X.2 s0.toNatClampNeg) :: st) M Q := zr_ix hP (by decide) rfl zf_g1000 dL_law_703
theorem wL_708 {s0 : Int32} {ls : List Slot} {st : List Value} (hP : zPk M) : zW X 1000 708 ls (.int s0 :: .ref 1000002 :: st) M Q ↔ vp_in s0 X.1 ∧ zW X 1000 709 ls (.int (X.2 s0.toNatClampNeg) :: st) M Q := zr_ix hP (by decide) rfl zf_g1000 dL_law_708
theorem wL_713 {s0 : Int32} {ls : List Slot} {st : List Value} (hP : zPk M) : zW X 1000 713 ls (.int s0 :: .ref 1000002 :: st) M Q ↔ vp_in s0 X.1 ∧ zW X 1000 714 ls (.int (X.2 s0.toNatClampNeg) :: st) M Q := zr_ix hP (by decide) rfl zf_g1000 dL_law_713
theorem wL_722 {s0 : Int32} {ls : List Slot} {st : List Value} (hP : zPk M) : zW X 1000 722 ls (.int s0 :: .ref 1000002 :: st) M Q ↔ vp_in s0 X.1 ∧ zW X 1000 723 ls (.int (X.2 s0.toNatClampNeg) :: st) M Q := zr_ix hP (by decide) rfl zf_g1000 dL_law_722
theorem wL_727 {s0 : Int32} {ls : List Slot} {st : List Value} (hP : zPk M) : zW X 1000 727 ls (.int s0 :: .ref 1000002 :: st) M Q ↔ vp_in s0 X.1 ∧ zW X 1000 728 ls (.int (X.2 s0.toNatClampNeg) :: st) M Q := zr_ix hP (by decide) rfl zf_g1000 dL_law_727
theorem wL_732 {s0 : Int32} {ls : List Slot} {st : List Value} (hP : zPk M) : zW X 1000 732 ls (.int s0 :: .ref 1000002 :: st) M Q ↔ vp_in s0 X.1 ∧ zW X 1000 733 ls (.int (X.2 s0.toNatClampNeg) :: st) M Q := zr_ix hP (by decide) rfl zf_g1000 dL_law_732
theorem wL_759 {s0 : Int32} {ls : List Slot} {st : List Value} (hP : zPk M) : zW X 1000 759 ls (.int s0 :: .ref 1000002 :: st) M Q ↔ vp_in s0 X.1 ∧ zW X 1000 760 ls (.int (X.2 s0.toNatClampNeg) :: st) M Q := zr_ix hP (by decide) rfl zf_g1000 dL_law_759
theorem wL_764 {s0 : Int32} {ls : List Slot} {st : List Value} (hP : zPk M) : zW X 1000 764 ls (.int s0 :: .ref 1000002 :: st) M Q ↔ vp_in s0 X.1 ∧ zW X 1000 765 ls (.int (X.2 s0.toNatClampNeg) :: st) M Q := zr_ix hP (by decide) rfl zf_g1000 dL_law_764
theorem wL_773 {s0 : Int32} {ls : List Slot} {st : List Value} (hP : zPk M) : zW X 1000 773 ls (.int s0 :: .ref 1000002 :: st) M Q ↔ vp_in s0 X.1 ∧ zW X 1000 774 ls (.int (X.2 s0.toNatClampNeg) :: st) M Q := zr_ix hP (by decide) rfl zf_g1000 dL_law_773
theorem wL_778 {s0 : Int32} {ls : List Slot} {st : List Value} (hP : zPk M) : zW X 1000 778 ls (.int s0 :: .ref 1000002 :: st) M Q ↔ vp_in s0 X.1 ∧ zW X 1000 779 ls (.int (X.2 s0.toNatClampNeg) :: st) M Q := zr_ix hP (by decide) rfl zf_g1000 dL_law_778
theorem wL_818 {s0 : Int32} {ls : List Slot} {st : List Value} (hP : zPk M) : zW X 1000 818 ls (.int s0 :: .ref 1000002 :: st) M Q ↔ vp_in s0 X.1 ∧ zW X 1000 819 ls (.int (X.2 s0.toNatClampNeg) :: st) M Q := zr_ix hP (by decide) rfl zf_g1000 dL_law_818
theorem wL_823 {s0 : Int32} {ls : List Slot} {st : List Value} (hP : zPk M) : zW X 1000 823 ls (.int s0 :: .ref 1000002 :: st) M Q ↔ vp_in s0 X.1 ∧ zW X 1000 824 ls (.int (X.2 s0.toNatClampNeg) :: st) M Q := zr_ix hP (by decide) rfl zf_g1000 dL_law_823
theorem wL_832 {s0 : Int32} {ls : List Slot} {st : List Value} (hP : zPk M) : zW X 1000 832 ls (.int s0 :: .ref 1000002 :: st) M Q ↔ vp_in s0 X.1 ∧ zW X 1000 833 ls (.int (X.2 s0.toNatClampNeg) :: st) M Q := zr_ix hP (by decide) rfl zf_g1000 dL_law_832
theorem wL_837 {s0 : Int32} {ls : List Slot} {st : List Value} (hP : zPk M) : zW X 1000 837 ls (.int s0 :: .ref 1000002 :: st) M Q ↔ vp_in s0 X.1 ∧ zW X 1000 838 ls (.int (X.2 s0.toNatClampNeg) :: st) M Q := zr_ix hP (by decide) rfl zf_g1000 dL_law_837
theorem wL_851 {s0 : Int32} {ls : List Slot} {st : List Value} (hP : zPk M) : zW X 1000 851 ls (.int s0 :: .ref 1000002 :: st) M Q ↔ vp_in s0 X.1 ∧ zW X 1000 852 ls (.int (X.2 s0.toNatClampNeg) :: st) M Q := zr_ix hP (by decide) rfl zf_g1000 dL_law_851
theorem wL_856 {s0 : Int32} {ls : List Slot} {st : List Value} (hP : zPk M) : zW X 1000 856 ls (.int s0 :: .ref 1000002 :: st) M Q ↔ vp_in s0 X.1 ∧ zW X 1000 857 ls (.int (X.2 s0.toNatClampNeg) :: st) M Q := zr_ix hP (by decide) rfl zf_g1000 dL_law_856
theorem wL_865 {s0 : Int32} {ls : List Slot} {st : List Value} (hP : zPk M) : zW X 1000 865 ls (.int s0 :: .ref 1000002 :: st) M Q ↔ vp_in s0 X.1 ∧ zW X 1000 866 ls (.int (X.2 s0.toNatClampNeg) :: st) M Q := zr_ix hP (by decide) rfl zf_g1000 dL_law_865
theorem wL_870 {s0 : Int32} {ls : List Slot} {st : List Value} (hP : zPk M) : zW X 1000 870 ls (.int s0 :: .ref 1000002 :: st) M Q ↔ vp_in s0 X.1 ∧ zW X 1000 871 ls (.int (X.2 s0.toNatClampNeg) :: st) M Q := zr_ix hP (by decide) rfl zf_g1000 dL_law_870
theorem wL_884 {s0 : Int32} {ls : List Slot} {st : List Value} (hP : zPk M) : zW X 1000 884 ls (.int s0 :: .ref 1000002 :: st) M Q ↔ vp_in s0 X.1 ∧ zW X 1000 885 ls (.int (X.2 s0.toNatClampNeg) :: st) M Q := zr_ix hP (by decide) rfl zf_g1000 dL_law_884
theorem wL_893 {s0 : Int32} {ls : List Slot} {st : List Value} (hP : zPk M) : zW X 1000 893 ls (.int s0 :: .ref 1000002 :: st) M Q ↔ vp_in s0 X.1 ∧ zW X 1000 894 ls (.int (X.2 s0.toNatClampNeg) :: st) M Q := zr_ix hP (by decide) rfl zf_g1000 dL_law_893
theorem wL_907 {s0 : Int32} {ls : List Slot} {st : List Value} (hP : zPk M) : zW X 1000 907 ls (.int s0 :: .ref 1000002 :: st) M Q ↔ vp_in s0 X.1 ∧ zW X 1000 908 ls (.int (X.2 s0.toNatClampNeg) :: st) M Q := zr_ix hP (by decide) rfl zf_g1000 dL_law_907
theorem wL_916 {s0 : Int32} {ls : List Slot} {st : List Value} (hP : zPk M) : zW X 1000 916 ls (.int s0 :: .ref 1000002 :: st) M Q ↔ vp_in s0 X.1 ∧ zW X 1000 917 ls (.int (X.2 s0.toNatClampNeg) :: st) M Q := zr_ix hP (by decide) rfl zf_g1000 dL_law_916
theorem wL_930 {s0 : Int32} {ls : List Slot} {st : List Value} (hP : zPk M) : zW X 1000 930 ls (.int s0 :: .ref 1000002 :: st) M Q ↔ vp_in s0 X.1 ∧ zW X 1000 931 ls (.int (X.2 s0.toNatClampNeg) :: st) M Q := zr_ix hP (by decide) rfl zf_g1000 dL_law_930
theorem wL_939 {s0 : Int32} {ls : List Slot} {st : List Value} (hP : zPk M) : zW X 1000 939 ls (.int s0 :: .ref 1000002 :: st) M Q ↔ vp_in s0 X.1 ∧ zW X 1000 940 ls (.int (X.2 s0.toNatClampNeg) :: st) M Q := zr_ix hP (by decide) rfl zf_g1000 dL_law_939
theorem wL_953 {s0 : Int32} {ls : List Slot} {st : List Value} (hP : zPk M) : zW X 1000 953 ls (.int s0 :: .ref 1000002 :: st) M Q ↔ vp_in s0 X.1 ∧ zW X 1000 954 ls (.int (X.2 s0.toNatClampNeg) :: st) M Q := zr_ix hP (by decide) rfl zf_g1000 dL_law_953
theorem wL_958 {s0 : Int32} {ls : List Slot} {st : List Value} (hP : zPk M) : zW X 1000 958 ls (.int s0 :: .ref 1000002 :: st) M Q ↔ vp_in s0 X.1 ∧ zW X 1000 959 ls (.int (X.2 s0.toNatClampNeg) :: st) M Q := zr_ix hP (by decide) rfl zf_g1000 dL_law_958
theorem wL_963 {s0 : Int32} {ls : List Slot} {st : List Value} (hP : zPk M) : zW X 1000 963 ls (.int s0 :: .ref 1000002 :: st) M Q ↔ vp_in s0 X.1 ∧ zW X 1000 964 ls (.int (X.2 s0.toNatClampNeg) :: st) M Q := zr_ix hP (by decide) rfl zf_g1000 dL_law_963
theorem wL_972 {s0 : Int32} {ls : List Slot} {st : List Value} (hP : zPk M) : zW X 1000 972 ls (.int s0 :: .ref 1000002 :: st) M Q ↔ vp_in s0 X.1 ∧ zW X 1000 973 ls (.int (X.2 s0.toNatClampNeg) :: st) M Q := zr_ix hP (by decide) rfl zf_g1000 dL_law_972
theorem wL_977 {s0 : Int32} {ls : List Slot} {st : List Value} (hP : zPk M) : zW X 1000 977 ls (.int s0 :: .ref 1000002 :: st) M Q ↔ vp_in s0 X.1 ∧ zW X 1000 978 ls (.int (X.2 s0.toNatClampNeg) :: st) M Q := zr_ix hP (by decide) rfl zf_g1000 dL_law_977
theorem wL_982 {s0 : Int32} {ls : List Slot} {st : List Value} (hP : zPk M) : zW X 1000 982 ls (.int s0 :: .ref 1000002 :: st) M Q ↔ vp_in s0 X.1 ∧ zW X 1000 983 ls (.int (X.2 s0.toNatClampNeg) :: st) M Q := zr_ix hP (by decide) rfl zf_g1000 dL_law_982
theorem wL_996 {s0 : Int32} {ls : List Slot} {st : List Value} (hP : zPk M) : zW X 1000 996 ls (.int s0 :: .ref 1000002 :: st) M Q ↔ vp_in s0 X.1 ∧ zW X 1000 997 ls (.int (X.2 s0.toNatClampNeg) :: st) M Q := zr_ix hP (by decide) rfl zf_g1000 dL_law_996
theorem wL_1005 {s0 : Int32} {ls : List Slot} {st : List Value} (hP : zPk M) : zW X 1000 1005 ls (.int s0 :: .ref 1000002 :: st) M Q ↔ vp_in s0 X.1 ∧ zW X 1000 1006 ls (.int (X.2 s0.toNatClampNeg) :: st) M Q := zr_ix hP (by decide) rfl zf_g1000 dL_law_1005
theorem wL_1019 {s0 : Int32} {ls : List Slot} {st : List Value} (hP : zPk M) : zW X 1000 1019 ls (.int s0 :: .ref 1000002 :: st) M Q ↔ vp_in s0 X.1 ∧ zW X 1000 1020 ls (.int (X.2 s0.toNatClampNeg) :: st) M Q := zr_ix hP (by decide) rfl zf_g1000 dL_law_1019
theorem wL_1024 {s0 : Int32} {ls : List Slot} {st : List Value} (hP : zPk M) : zW X 1000 1024 ls (.int s0 :: .ref 1000002 :: st) M Q ↔ vp_in s0 X.1 ∧ zW X 1000 1025 ls (.int (X.2 s0.toNatClampNeg) :: st) M Q := zr_ix hP (by decide) rfl zf_g1000 dL_law_1024
theorem wL_1029 {s0 : Int32} {ls : List Slot} {st : List Value} (hP : zPk M) : zW X 1000 1029 ls (.int s0 :: .ref 1000002 :: st) M Q ↔ vp_in s0 X.1 ∧ zW X 1000 1030 ls (.int (X.2 s0.toNatClampNeg) :: st) M Q := zr_ix hP (by decide) rfl zf_g1000 dL_law_1029
theorem wL_1034 {s0 : Int32} {ls : List Slot} {st : List Value} (hP : zPk M) : zW X 1000 1034 ls (.int s0 :: .ref 1000002 :: st) M Q ↔ vp_in s0 X.1 ∧ zW X 1000 1035 ls (.int (X.2 s0.toNatClampNeg) :: st) M Q := zr_ix hP (by decide) rfl zf_g1000 dL_law_1034
theorem wL_1043 {s0 : Int32} {ls : List Slot} {st : List Value} (hP : zPk M) : zW X 1000 1043 ls (.int s0 :: .ref 1000002 :: st) M Q ↔ vp_in s0 X.1 ∧ zW X 1000 1044 ls (.int (X.2 s0.toNatClampNeg) :: st) M Q := zr_ix hP (by decide) rfl zf_g1000 dL_law_1043
theorem wL_1048 {s0 : Int32} {ls : List Slot} {st : List Value} (hP : zPk M) : zW X 1000 1048 ls (.int s0 :: .ref 1000002 :: st) M Q ↔ vp_in s0 X.1 ∧ zW X 1000 1049 ls (.int (X.2 s0.toNatClampNeg) :: st) M Q := zr_ix hP (by decide) rfl zf_g1000 dL_law_1048
theorem wL_1053 {s0 : Int32} {ls : List Slot} {st : List Value} (hP : zPk M) : zW X 1000 1053 ls (.int s0 :: .ref 1000002 :: st) M Q ↔ vp_in s0 X.1 ∧ zW X 1000 1054 ls (.int (X.2 s0.toNatClampNeg) :: st) M Q := zr_ix hP (by decide) rfl zf_g1000 dL_law_1053
theorem wL_1058 {s0 : Int32} {ls : List Slot} {st : List Value} (hP : zPk M) : zW X 1000 1058 ls (.int s0 :: .ref 1000002 :: st) M Q ↔ vp_in s0 X.1 ∧ zW X 1000 1059 ls (.int (X.2 s0.toNatClampNeg) :: st) M Q := zr_ix hP (by decide) rfl zf_g1000 dL_law_1058
theorem wL_1072 {s0 : Int32} {ls : List Slot} {st : List Value} (hP : zPk M) : zW X 1000 1072 ls (.int s0 :: .ref 1000002 :: st) M Q ↔ vp_in s0 X.1 ∧ zW X 1000 1073 ls (.int (X.2 s0.toNatClampNeg) :: st) M Q := zr_ix hP (by decide) rfl zf_g1000 dL_law_1072
theorem wL_1077 {s0 : Int32} {ls : List Slot} {st : List Value} (hP : zPk M) : zW X 1000 1077 ls (.int s0 :: .ref 1000002 :: st) M Q ↔ vp_in s0 X.1 ∧ zW X 1000 1078 ls (.int (X.2 s0.toNatClampNeg) :: st) M Q := zr_ix hP (by decide) rfl zf_g1000 dL_law_1077
theorem wL_1082 {s0 : Int32} {ls : List Slot} {st : List Value} (hP : zPk M) : zW X 1000 1082 ls (.int s0 :: .ref 1000002 :: st) M Q ↔ vp_in s0 X.1 ∧ zW X 1000 1083 ls (.int (X.2 s0.toNatClampNeg) :: st) M Q := zr_ix hP (by decide) rfl zf_g1000 dL_law_1082
theorem wL_1091 {s0 : Int32} {ls : List Slot} {st : List Value} (hP : zPk M) : zW X 1000 1091 ls (.int s0 :: .ref 1000002 :: st) M Q ↔ vp_in s0 X.1 ∧ zW X 1000 1092 ls (.int (X.2 s0.toNatClampNeg) :: st) M Q := zr_ix hP (by decide) rfl zf_g1000 dL_law_1091
theorem wL_1096 {s0 : Int32} {ls : List Slot} {st : List Value} (hP : zPk M) : zW X 1000 1096 ls (.int s0 :: .ref 1000002 :: st) M Q ↔ vp_in s0 X.1 ∧ zW X 1000 1097 ls (.int (X.2 s0.toNatClampNeg) :: st) M Q := zr_ix hP (by decide) rfl zf_g1000 dL_law_1096
theorem wL_1101 {s0 : Int32} {ls : List Slot} {st : List Value} (hP : zPk M) : zW X 1000 1101 ls (.int s0 :: .ref 1000002 :: st) M Q ↔ vp_in s0 X.1 ∧ zW X 1000 1102 ls (.int (X.2 s0.toNatClampNeg) :: st) M Q := zr_ix hP (by decide) rfl zf_g1000 dL_law_1101
theorem wL_1115 {s0 : Int32} {ls : List Slot} {st : List Value} (hP : zPk M) : zW X 1000 1115 ls (.int s0 :: .ref 1000002 :: st) M Q ↔ vp_in s0 X.1 ∧ zW X 1000 1116 ls (.int (X.2 s0.toNatClampNeg) :: st) M Q := zr_ix hP (by decide) rfl zf_g1000 dL_law_1115
theorem wL_1120 {s0 : Int32} {ls : List Slot} {st : List Value} (hP : zPk M) : zW X 1000 1120 ls (.int s0 :: .ref 1000002 :: st) M Q ↔ vp_in s0 X.1 ∧ zW X 1000 1121 ls (.int (X.2 s0.toNatClampNeg) :: st) M Q := zr_ix hP (by decide) rfl zf_g1000 dL_law_1120
theorem wL_1125 {s0 : Int32} {ls : List Slot} {st : List Value} (hP : zPk M) : zW X 1000 1125 ls (.int s0 :: .ref 1000002 :: st) M Q ↔ vp_in s0 X.1 ∧ zW X 1000 1126 ls (.int (X.2 s0.toNatClampNeg) :: st) M Q := zr_ix hP (by decide) rfl zf_g1000 dL_law_1125
theorem wL_1130 {s0 : Int32} {ls : List Slot} {st : List Value} (hP : zPk M) : zW X 1000 1130 ls (.int s0 :: .ref 1000002 :: st) M Q ↔ vp_in s0 X.1 ∧ zW X 1000 1131 ls (.int (X.2 s0.toNatClampNeg) :: st) M Q := zr_ix hP (by decide) rfl zf_g1000 dL_law_1130
theorem wL_1135 {s0 : Int32} {ls : List Slot} {st : List Value} (hP : zPk M) : zW X 1000 1135 ls (.int s0 :: .ref 1000002 :: st) M Q ↔ vp_in s0 X.1 ∧ zW X 1000 1136 ls (.int (X.2 s0.toNatClampNeg) :: st) M Q := zr_ix hP (by decide) rfl zf_g1000 dL_law_1135
theorem wL_1144 {s0 : Int32} {ls : List Slot} {st : List Value} (hP : zPk M) : zW X 1000 1144 ls (.int s0 :: .ref 1000002 :: st) M Q ↔ vp_in s0 X.1 ∧ zW X 1000 1145 ls (.int (X.2 s0.toNatClampNeg) :: st) M Q := zr_ix hP (by decide) rfl zf_g1000 dL_law_1144
theorem wL_1149 {s0 : Int32} {ls : List Slot} {st : List Value} (hP : zPk M) : zW X 1000 1149 ls (.int s0 :: .ref 1000002 :: st) M Q ↔ vp_in s0 X.1 ∧ zW X 1000 1150 ls (.int (X.2 s0.toNatClampNeg) :: st) M Q := zr_ix hP (by decide) rfl zf_g1000 dL_law_1149
theorem wL_1154 {s0 : Int32} {ls : List Slot} {st : List Value} (hP : zPk M) : zW X 1000 1154 ls (.int s0 :: .ref 1000002 :: st) M Q ↔ vp_in s0 X.1 ∧ zW X 1000 1155 ls (.int (X.2 s0.toNatClampNeg) :: st) M Q := zr_ix hP (by decide) rfl zf_g1000 dL_law_1154
theorem wL_1159 {s0 : Int32} {ls : List Slot} {st : List Value} (hP : zPk M) : zW X 1000 1159 ls (.int s0 :: .ref 1000002 :: st) M Q ↔ vp_in s0 X.1 ∧ zW X 1000 1160 ls (.int (X.2 s0.toNatClampNeg) :: st) M Q := zr_ix hP (by decide) rfl zf_g1000 dL_law_1159
theorem wL_1164 {s0 : Int32} {ls : List Slot} {st : List Value} (hP : zPk M) : zW X 1000 1164 ls (.int s0 :: .ref 1000002 :: st) M Q ↔ vp_in s0 X.1 ∧ zW X 1000 1165 ls (.int (X.2 s0.toNatClampNeg) :: st) M Q := zr_ix hP (by decide) rfl zf_g1000 dL_law_1164
theorem wL_1178 {s0 : Int32} {ls : List Slot} {st : List Value} (hP : zPk M) : zW X 1000 1178 ls (.int s0 :: .ref 1000002 :: st) M Q ↔ vp_in s0 X.1 ∧ zW X 1000 1179 ls (.int (X.2 s0.toNatClampNeg) :: st) M Q := zr_ix hP (by decide) rfl zf_g1000 dL_law_1178
theorem wL_1183 {s0 : Int32} {ls : List Slot} {st : List Value} (hP : zPk M) : zW X 1000 1183 ls (.int s0 :: .ref 1000002 :: st) M Q ↔ vp_in s0 X.1 ∧ zW X 1000 1184 ls (.int (X.2 s0.toNatClampNeg) :: st) M Q := zr_ix hP (by decide) rfl zf_g1000 dL_law_1183
theorem wL_1192 {s0 : Int32} {ls : List Slot} {st : List Value} (hP : zPk M) : zW X 1000 1192 ls (.int s0 :: .ref 1000002 :: st) M Q ↔ vp_in s0 X.1 ∧ zW X 1000 1193 ls (.int (X.2 s0.toNatClampNeg) :: st) M Q := zr_ix hP (by decide) rfl zf_g1000 dL_law_1192
theorem wL_1197 {s0 : Int32} {ls : List Slot} {st : List Value} (hP : zPk M) : zW X 1000 1197 ls (.int s0 :: .ref 1000002 :: st) M Q ↔ vp_in s0 X.1 ∧ zW X 1000 1198 ls (.int (X.2 s0.toNatClampNeg) :: st) M Q := zr_ix hP (by decide) rfl zf_g1000 dL_law_1197
theorem wL_1211 {s0 : Int32} {ls : List Slot} {st : List Value} (hP : zPk M) : zW X 1000 1211 ls (.int s0 :: .ref 1000002 :: st) M Q ↔ vp_in s0 X.1 ∧ zW X 1000 1212 ls (.int (X.2 s0.toNatClampNeg) :: st) M Q := zr_ix hP (by decide) rfl zf_g1000 dL_law_1211
theorem wL_1220 {s0 : Int32} {ls : List Slot} {st : List Value} (hP : zPk M) : zW X 1000 1220 ls (.int s0 :: .ref 1000002 :: st) M Q ↔ vp_in s0 X.1 ∧ zW X 1000 1221 ls (.int (X.2 s0.toNatClampNeg) :: st) M Q := zr_ix hP (by decide) rfl zf_g1000 dL_law_1220
theorem wL_20 {ls : List Slot} {st : List Value} (hP : zPk M) : zW X 1000 20 ls (.ref 1000002 :: st) M Q ↔ zW X 1000 21 ls (.int (Int32.ofNat X.1) :: st) M Q := zr_fl hP (by decide) rfl zf_g1000 dL_law_20
theorem law_0 (hR : zR q M) (hi : i + 7 ≤ X.1) (hx : X.1 < 2 ^ 31) (nxt : ∀ q' M', zR q' M' → zW X 1000 18 [.val (.ref 1000002), .val (.ref 0), .val (.ref 58), .val (.int (nI (i + 7)))] [] M' Q) : zW X 1000 184 [.val (.ref 1000002), .val (.ref 0), .val (.ref 58), .val (.int (nI i))] [] M Q := by
  obtain ⟨hv, hP, hC, hM⟩ := hR
  have a1 : nI i + 1 = nI (i + 1) := nI_add i 1
  have c1 := n_cl (show i + 1 < 2 ^ 31 by omega)
  have v1 := n_in (show i + 1 < X.1 by omega) hx
  have a2 : nI i + 2 = nI (i + 2) := nI_add i 2
  have c2 := n_cl (show i + 2 < 2 ^ 31 by omega)
  have v2 := n_in (show i + 2 < X.1 by omega) hx
  have a3 : nI i + 3 = nI (i + 3) := nI_add i 3
  have c3 := n_cl (show i + 3 < 2 ^ 31 by omega)
  have v3 := n_in (show i + 3 < X.1 by omega) hx
  have a4 : nI i + 4 = nI (i + 4) := nI_add i 4
  have c4 := n_cl (show i + 4 < 2 ^ 31 by omega)
  have v4 := n_in (show i + 4 < X.1 by omega) hx
  have a5 : nI i + 5 = nI (i + 5) := nI_add i 5
  have c5 := n_cl (show i + 5 < 2 ^ 31 by omega)
  have v5 := n_in (show i + 5 < X.1 by omega) hx
  have a6 : nI i + 6 = nI (i + 6) := nI_add i 6
  have c6 := n_cl (show i + 6 < 2 ^ 31 by omega)
  have v6 := n_in (show i + 6 < X.1 by omega) hx
  have a7 : nI i + 7 = nI (i + 7) := nI_add i 7
  simp only [w1000_184, w1000_185, w1000_186, w1000_187, w1000_188, w1000_189, w1000_190, w1000_191, w1000_192, w1000_193, w1000_194, w1000_195, w1000_196, w1000_197, w1000_198, w1000_199, w1000_200, w1000_201, w1000_202, w1000_203, w1000_204, w1000_205, w1000_206, w1000_207, w1000_208, w1000_209, w1000_210, w1000_211, w1000_212, w1000_214, w1000_215, w1000_216, zk_sI, zk_sJ, zk_sP, zn_sI, zn_sJ, zn_sP, zI_sI, zI_sJ, zI_sP, zJ_sI, zJ_sJ, zJ_sP, zP_sI, zP_sJ, zP_sP, Option.toList_some, Option.toList_none, List.cons_append, List.nil_append, zk_of hP.1, zn_of hP.1, zix, ziN, ne_eq, reduceCtorEq, not_false_eq_true, true_and, and_true, Option.getD_some, Nat.reduceLeDiff, Nat.reduceLT, c_ofNat, zkd0, zp_0_0 hP, zp_0_1 hP, zp_0_2 hP, zp_0_3 hP, zp_0_4 hP, zp_0_5 hP, zp_0_6 hP, zp_0_7 hP, zkd58, zp_58_1 hP, zp_58_2 hP, zp_58_6 hP, zp_58_7 hP, zp_58_10 hP, zp_58_11 hP, zp_58_12 hP, zp_58_14 hP, zp_58_15 hP, zp_58_17 hP, zp_58_18 hP, zp_58_19 hP, zp_58_20 hP, zp_58_21 hP, zp_58_22 hP, zp_58_24 hP, zp_58_26 hP, zp_58_29 hP, zp_58_32 hP, zp_58_33 hP, zp_58_34 hP, zp_58_35 hP, zp_58_36 hP, zp_58_37 hP, zp_58_38 hP, zp_58_39 hP, wL_189 hP, wL_194 hP, wL_199 hP, wL_204 hP, wL_209 hP, wL_215 hP, a1, c1, v1, a2, c2, v2, a3, c3, v3, a4, c4, v4, a5, c5, v5, a6, c6, v6]
  refine C50 hv hP hC (fun M1 u1 k1 => ?_)
  have hP1 := u1.1
  simp only [w1000_219, w1000_220, w1000_221, w1000_222, w1000_223, w1000_224, w1000_225, w1000_226, w1000_227, w1000_228, w1000_229, w1000_230, w1000_231, w1000_232, w1000_233, w1000_234, w1000_235, w1000_236, w1000_237, w1000_238, w1000_239, w1000_240, w1000_241, w1000_242, w1000_243, w1000_244, w1000_245, w1000_246, w1000_247, w1000_249, w1000_250, w1000_251, zk_sI, zk_sJ, zk_sP, zn_sI, zn_sJ, zn_sP, zI_sI, zI_sJ, zI_sP, zJ_sI, zJ_sJ, zJ_sP, zP_sI, zP_sJ, zP_sP, Option.toList_some, Option.toList_none, List.cons_append, List.nil_append, zk_of hP1.1, zn_of hP1.1, zix, ziN, ne_eq, reduceCtorEq, not_false_eq_true, true_and, and_true, Option.getD_some, Nat.reduceLeDiff, Nat.reduceLT, c_ofNat, zkd0, zp_0_0 hP1, zp_0_1 hP1, zp_0_2 hP1, zp_0_3 hP1, zp_0_4 hP1, zp_0_5 hP1, zp_0_6 hP1, zp_0_7 hP1, zkd58, zp_58_1 hP1, zp_58_2 hP1, zp_58_6 hP1, zp_58_7 hP1, zp_58_10 hP1, zp_58_11 hP1, zp_58_12 hP1, zp_58_14 hP1, zp_58_15 hP1, zp_58_17 hP1, zp_58_18 hP1, zp_58_19 hP1, zp_58_20 hP1, zp_58_21 hP1, zp_58_22 hP1, zp_58_24 hP1, zp_58_26 hP1, zp_58_29 hP1, zp_58_32 hP1, zp_58_33 hP1, zp_58_34 hP1, zp_58_35 hP1, zp_58_36 hP1, zp_58_37 hP1, zp_58_38 hP1, zp_58_39 hP1, wL_224 hP1, wL_229 hP1, wL_234 hP1, wL_239 hP1, wL_244 hP1, wL_250 hP1, a1, c1, v1, a2, c2, v2, a3, c3, v3, a4, c4, v4, a5, c5, v5, a6, c6, v6]
  refine M107 hv hP1 (zKM_up hM u1) (fun M2 d2 m2 => ?_)
  have fin := nxt _ M2 ⟨vFig _ _ _ _ _ _ hv, zPk_F hP1 d2, zKC_dn k1 d2, m2⟩
  simp only [w1000_254, w1000_1243, w1000_1246, zk_sI, zk_sJ, zk_sP, zn_sI, zn_sJ, zn_sP, zI_sI, zI_sJ, zI_sP, zJ_sI, zJ_sJ, zJ_sP, zP_sI, zP_sJ, zP_sP, Option.toList_some, Option.toList_none, List.cons_append, List.nil_append, a7, lc_eq, true_implies, not_true_eq_false, false_implies, and_true]
  exact fin
theorem law_1 (hR : zR q M) (hi : i + 7 ≤ X.1) (hx : X.1 < 2 ^ 31) (nxt : ∀ q' M', zR q' M' → zW X 1000 18 [.val (.ref 1000002), .val (.ref 0), .val (.ref 58), .val (.int (nI (i + 7)))] [] M' Q) : zW X 1000 259 [.val (.ref 1000002), .val (.ref 0), .val (.ref 58), .val (.int (nI i))] [] M Q := by
  obtain ⟨hv, hP, hC, hM⟩ := hR
  have a1 : nI i + 1 = nI (i + 1) := nI_add i 1
  have c1 := n_cl (show i + 1 < 2 ^ 31 by omega)
  have v1 := n_in (show i + 1 < X.1 by omega) hx
  have a2 : nI i + 2 = nI (i + 2) := nI_add i 2
  have c2 := n_cl (show i + 2 < 2 ^ 31 by omega)
  have v2 := n_in (show i + 2 < X.1 by omega) hx
  have a7 : nI i + 7 = nI (i + 7) := nI_add i 7
  simp only [w1000_259, w1000_260, w1000_261, w1000_262, w1000_263, w1000_264, w1000_265, w1000_266, w1000_267, w1000_268, w1000_269, w1000_270, zk_sI, zk_sJ, zk_sP, zn_sI, zn_sJ, zn_sP, zI_sI, zI_sJ, zI_sP, zJ_sI, zJ_sJ, zJ_sP, zP_sI, zP_sJ, zP_sP, Option.toList_some, Option.toList_none, List.cons_append, List.nil_append, zk_of hP.1, zn_of hP.1, zix, ziN, ne_eq, reduceCtorEq, not_false_eq_true, true_and, and_true, Option.getD_some, Nat.reduceLeDiff, Nat.reduceLT, c_ofNat, zkd0, zp_0_0 hP, zp_0_1 hP, zp_0_2 hP, zp_0_3 hP, zp_0_4 hP, zp_0_5 hP, zp_0_6 hP, zp_0_7 hP, zkd58, zp_58_1 hP, zp_58_2 hP, zp_58_6 hP, zp_58_7 hP, zp_58_10 hP, zp_58_11 hP, zp_58_12 hP, zp_58_14 hP, zp_58_15 hP, zp_58_17 hP, zp_58_18 hP, zp_58_19 hP, zp_58_20 hP, zp_58_21 hP, zp_58_22 hP, zp_58_24 hP, zp_58_26 hP, zp_58_29 hP, zp_58_32 hP, zp_58_33 hP, zp_58_34 hP, zp_58_35 hP, zp_58_36 hP, zp_58_37 hP, zp_58_38 hP, zp_58_39 hP, wL_264 hP, wL_269 hP, a1, c1, v1, a2, c2, v2]
  refine C51 hv hP hC (fun M1 u1 k1 => ?_)
  have hP1 := u1.1
  simp only [w1000_273, w1000_274, w1000_275, w1000_276, w1000_277, w1000_278, w1000_279, w1000_280, w1000_281, w1000_282, w1000_283, w1000_284, zk_sI, zk_sJ, zk_sP, zn_sI, zn_sJ, zn_sP, zI_sI, zI_sJ, zI_sP, zJ_sI, zJ_sJ, zJ_sP, zP_sI, zP_sJ, zP_sP, Option.toList_some, Option.toList_none, List.cons_append, List.nil_append, zk_of hP1.1, zn_of hP1.1, zix, ziN, ne_eq, reduceCtorEq, not_false_eq_true, true_and, and_true, Option.getD_some, Nat.reduceLeDiff, Nat.reduceLT, c_ofNat, zkd0, zp_0_0 hP1, zp_0_1 hP1, zp_0_2 hP1, zp_0_3 hP1, zp_0_4 hP1, zp_0_5 hP1, zp_0_6 hP1, zp_0_7 hP1, zkd58, zp_58_1 hP1, zp_58_2 hP1, zp_58_6 hP1, zp_58_7 hP1, zp_58_10 hP1, zp_58_11 hP1, zp_58_12 hP1, zp_58_14 hP1, zp_58_15 hP1, zp_58_17 hP1, zp_58_18 hP1, zp_58_19 hP1, zp_58_20 hP1, zp_58_21 hP1, zp_58_22 hP1, zp_58_24 hP1, zp_58_26 hP1, zp_58_29 hP1, zp_58_32 hP1, zp_58_33 hP1, zp_58_34 hP1, zp_58_35 hP1, zp_58_36 hP1, zp_58_37 hP1, zp_58_38 hP1, zp_58_39 hP1, wL_278 hP1, wL_283 hP1, a1, c1, v1, a2, c2, v2]
  refine M108 hv hP1 (zKM_up hM u1) (fun M2 d2 m2 => ?_)
  have fin := nxt _ M2 ⟨hv, zPk_F hP1 d2, zKC_dn k1 d2, m2⟩
  simp only [w1000_287, w1000_1243, w1000_1246, zk_sI, zk_sJ, zk_sP, zn_sI, zn_sJ, zn_sP, zI_sI, zI_sJ, zI_sP, zJ_sI, zJ_sJ, zJ_sP, zP_sI, zP_sJ, zP_sP, Option.toList_some, Option.toList_none, List.cons_append, List.nil_append, a7, lc_eq, true_implies, not_true_eq_false, false_implies, and_true]
  exact fin
theorem law_2 (hR : zR q M) (hi : i + 7 ≤ X.1) (hx : X.1 < 2 ^ 31) (nxt : ∀ q' M', zR q' M' → zW X 1000 18 [.val (.ref 1000002), .val (.ref 0), .val (.ref 58), .val (.int (nI (i + 7)))] [] M' Q) : zW X 1000 292 [.val (.ref 1000002), .val (.ref 0), .val (.ref 58), .val (.int (nI i))] [] M Q := by
  obtain ⟨hv, hP, hC, hM⟩ := hR
  have a1 : nI i + 1 = nI (i + 1) := nI_add i 1
  have c1 := n_cl (show i + 1 < 2 ^ 31 by omega)
  have v1 := n_in (show i + 1 < X.1 by omega) hx
  have a2 : nI i + 2 = nI (i + 2) := nI_add i 2
  have c2 := n_cl (show i + 2 < 2 ^ 31 by omega)
  have v2 := n_in (show i + 2 < X.1 by omega) hx
  have a3 : nI i + 3 = nI (i + 3) := nI_add i 3
  have c3 := n_cl (show i + 3 < 2 ^ 31 by omega)
  have v3 := n_in (show i + 3 < X.1 by omega) hx
  have a7 : nI i + 7 = nI (i + 7) := nI_add i 7
  simp only [w1000_292, w1000_293, w1000_294, w1000_295, w1000_296, w1000_297, w1000_298, w1000_299, w1000_300, w1000_301, w1000_302, w1000_303, w1000_304, w1000_305, w1000_306, w1000_307, w1000_308, zk_sI, zk_sJ, zk_sP, zn_sI, zn_sJ, zn_sP, zI_sI, zI_sJ, zI_sP, zJ_sI, zJ_sJ, zJ_sP, zP_sI, zP_sJ, zP_sP, Option.toList_some, Option.toList_none, List.cons_append, List.nil_append, zk_of hP.1, zn_of hP.1, zix, ziN, ne_eq, reduceCtorEq, not_false_eq_true, true_and, and_true, Option.getD_some, Nat.reduceLeDiff, Nat.reduceLT, c_ofNat, zkd0, zp_0_0 hP, zp_0_1 hP, zp_0_2 hP, zp_0_3 hP, zp_0_4 hP, zp_0_5 hP, zp_0_6 hP, zp_0_7 hP, zkd58, zp_58_1 hP, zp_58_2 hP, zp_58_6 hP, zp_58_7 hP, zp_58_10 hP, zp_58_11 hP, zp_58_12 hP, zp_58_14 hP, zp_58_15 hP, zp_58_17 hP, zp_58_18 hP, zp_58_19 hP, zp_58_20 hP, zp_58_21 hP, zp_58_22 hP, zp_58_24 hP, zp_58_26 hP, zp_58_29 hP, zp_58_32 hP, zp_58_33 hP, zp_58_34 hP, zp_58_35 hP, zp_58_36 hP, zp_58_37 hP, zp_58_38 hP, zp_58_39 hP, wL_297 hP, wL_302 hP, wL_307 hP, a1, c1, v1, a2, c2, v2, a3, c3, v3]
  refine C52 hv hP hC (fun M1 u1 k1 => ?_)
  have hP1 := u1.1
  simp only [w1000_311, w1000_312, w1000_313, w1000_314, w1000_315, w1000_316, w1000_317, w1000_318, w1000_319, w1000_320, w1000_321, w1000_322, w1000_323, w1000_324, w1000_325, w1000_326, w1000_327, zk_sI, zk_sJ, zk_sP, zn_sI, zn_sJ, zn_sP, zI_sI, zI_sJ, zI_sP, zJ_sI, zJ_sJ, zJ_sP, zP_sI, zP_sJ, zP_sP, Option.toList_some, Option.toList_none, List.cons_append, List.nil_append, zk_of hP1.1, zn_of hP1.1, zix, ziN, ne_eq, reduceCtorEq, not_false_eq_true, true_and, and_true, Option.getD_some, Nat.reduceLeDiff, Nat.reduceLT, c_ofNat, zkd0, zp_0_0 hP1, zp_0_1 hP1, zp_0_2 hP1, zp_0_3 hP1, zp_0_4 hP1, zp_0_5 hP1, zp_0_6 hP1, zp_0_7 hP1, zkd58, zp_58_1 hP1, zp_58_2 hP1, zp_58_6 hP1, zp_58_7 hP1, zp_58_10 hP1, zp_58_11 hP1, zp_58_12 hP1, zp_58_14 hP1, zp_58_15 hP1, zp_58_17 hP1, zp_58_18 hP1, zp_58_19 hP1, zp_58_20 hP1, zp_58_21 hP1, zp_58_22 hP1, zp_58_24 hP1, zp_58_26 hP1, zp_58_29 hP1, zp_58_32 hP1, zp_58_33 hP1, zp_58_34 hP1, zp_58_35 hP1, zp_58_36 hP1, zp_58_37 hP1, zp_58_38 hP1, zp_58_39 hP1, wL_316 hP1, wL_321 hP1, wL_326 hP1, a1, c1, v1, a2, c2, v2, a3, c3, v3]
  refine M109 hv hP1 (zKM_up hM u1) (fun M2 d2 m2 => ?_)
  have fin := nxt _ M2 ⟨vTune _ _ _ hv, zPk_F hP1 d2, zKC_dn k1 d2, m2⟩
  simp only [w1000_330, w1000_1243, w1000_1246, zk_sI, zk_sJ, zk_sP, zn_sI, zn_sJ, zn_sP, zI_sI, zI_sJ, zI_sP, zJ_sI, zJ_sJ, zJ_sP, zP_sI, zP_sJ, zP_sP, Option.toList_some, Option.toList_none, List.cons_append, List.nil_append, a7, lc_eq, true_implies, not_true_eq_false, false_implies, and_true]
  exact fin
theorem law_3 (hR : zR q M) (hi : i + 7 ≤ X.1) (hx : X.1 < 2 ^ 31) (nxt : ∀ q' M', zR q' M' → zW X 1000 18 [.val (.ref 1000002), .val (.ref 0), .val (.ref 58), .val (.int (nI (i + 7)))] [] M' Q) : zW X 1000 335 [.val (.ref 1000002), .val (.ref 0), .val (.ref 58), .val (.int (nI i))] [] M Q := by
  obtain ⟨hv, hP, hC, hM⟩ := hR
  have a1 : nI i + 1 = nI (i + 1) := nI_add i 1
  have c1 := n_cl (show i + 1 < 2 ^ 31 by omega)
  have v1 := n_in (show i + 1 < X.1 by omega) hx
  have a2 : nI i + 2 = nI (i + 2) := nI_add i 2
  have c2 := n_cl (show i + 2 < 2 ^ 31 by omega)
  have v2 := n_in (show i + 2 < X.1 by omega) hx
  have a3 : nI i + 3 = nI (i + 3) := nI_add i 3
  have c3 := n_cl (show i + 3 < 2 ^ 31 by omega)
  have v3 := n_in (show i + 3 < X.1 by omega) hx
  have a4 : nI i + 4 = nI (i + 4) := nI_add i 4
  have c4 := n_cl (show i + 4 < 2 ^ 31 by omega)
  have v4 := n_in (show i + 4 < X.1 by omega) hx
  have a7 : nI i + 7 = nI (i + 7) := nI_add i 7
  simp only [w1000_335, w1000_336, w1000_337, w1000_338, w1000_339, w1000_340, w1000_341, w1000_342, w1000_343, w1000_344, w1000_345, w1000_346, w1000_347, w1000_348, w1000_349, w1000_350, w1000_351, w1000_352, w1000_353, w1000_354, w1000_355, w1000_356, zk_sI, zk_sJ, zk_sP, zn_sI, zn_sJ, zn_sP, zI_sI, zI_sJ, zI_sP, zJ_sI, zJ_sJ, zJ_sP, zP_sI, zP_sJ, zP_sP, Option.toList_some, Option.toList_none, List.cons_append, List.nil_append, zk_of hP.1, zn_of hP.1, zix, ziN, ne_eq, reduceCtorEq, not_false_eq_true, true_and, and_true, Option.getD_some, Nat.reduceLeDiff, Nat.reduceLT, c_ofNat, zkd0, zp_0_0 hP, zp_0_1 hP, zp_0_2 hP, zp_0_3 hP, zp_0_4 hP, zp_0_5 hP, zp_0_6 hP, zp_0_7 hP, zkd58, zp_58_1 hP, zp_58_2 hP, zp_58_6 hP, zp_58_7 hP, zp_58_10 hP, zp_58_11 hP, zp_58_12 hP, zp_58_14 hP, zp_58_15 hP, zp_58_17 hP, zp_58_18 hP, zp_58_19 hP, zp_58_20 hP, zp_58_21 hP, zp_58_22 hP, zp_58_24 hP, zp_58_26 hP, zp_58_29 hP, zp_58_32 hP, zp_58_33 hP, zp_58_34 hP, zp_58_35 hP, zp_58_36 hP, zp_58_37 hP, zp_58_38 hP, zp_58_39 hP, wL_340 hP, wL_345 hP, wL_350 hP, wL_355 hP, a1, c1, v1, a2, c2, v2, a3, c3, v3, a4, c4, v4]
  refine C53 hv hP hC (fun M1 u1 k1 => ?_)
  have hP1 := u1.1
  simp only [w1000_359, w1000_360, w1000_361, w1000_362, w1000_363, w1000_364, w1000_365, w1000_366, w1000_367, w1000_368, w1000_369, w1000_370, w1000_371, w1000_372, w1000_373, w1000_374, w1000_375, w1000_376, w1000_377, w1000_378, w1000_379, w1000_380, zk_sI, zk_sJ, zk_sP, zn_sI, zn_sJ, zn_sP, zI_sI, zI_sJ, zI_sP, zJ_sI, zJ_sJ, zJ_sP, zP_sI, zP_sJ, zP_sP, Option.toList_some, Option.toList_none, List.cons_append, List.nil_append, zk_of hP1.1, zn_of hP1.1, zix, ziN, ne_eq, reduceCtorEq, not_false_eq_true, true_and, and_true, Option.getD_some, Nat.reduceLeDiff, Nat.reduceLT, c_ofNat, zkd0, zp_0_0 hP1, zp_0_1 hP1, zp_0_2 hP1, zp_0_3 hP1, zp_0_4 hP1, zp_0_5 hP1, zp_0_6 hP1, zp_0_7 hP1, zkd58, zp_58_1 hP1, zp_58_2 hP1, zp_58_6 hP1, zp_58_7 hP1, zp_58_10 hP1, zp_58_11 hP1, zp_58_12 hP1, zp_58_14 hP1, zp_58_15 hP1, zp_58_17 hP1, zp_58_18 hP1, zp_58_19 hP1, zp_58_20 hP1, zp_58_21 hP1, zp_58_22 hP1, zp_58_24 hP1, zp_58_26 hP1, zp_58_29 hP1, zp_58_32 hP1, zp_58_33 hP1, zp_58_34 hP1, zp_58_35 hP1, zp_58_36 hP1, zp_58_37 hP1, zp_58_38 hP1, zp_58_39 hP1, wL_364 hP1, wL_369 hP1, wL_374 hP1, wL_379 hP1, a1, c1, v1, a2, c2, v2, a3, c3, v3, a4, c4, v4]
  refine M112 hv hP1 (zKM_up hM u1) (fun M2 d2 m2 => ?_)
  have fin := nxt _ M2 ⟨vSide _ _ _ _ hv, zPk_F hP1 d2, zKC_dn k1 d2, m2⟩
  simp only [w1000_383, w1000_1243, w1000_1246, zk_sI, zk_sJ, zk_sP, zn_sI, zn_sJ, zn_sP, zI_sI, zI_sJ, zI_sP, zJ_sI, zJ_sJ, zJ_sP, zP_sI, zP_sJ, zP_sP, Option.toList_some, Option.toList_none, List.cons_append, List.nil_append, a7, lc_eq, true_implies, not_true_eq_false, false_implies, and_true]
  exact fin
theorem law_4 (hR : zR q M) (hi : i + 7 ≤ X.1) (hx : X.1 < 2 ^ 31) (nxt : ∀ q' M', zR q' M' → zW X 1000 18 [.val (.ref 1000002), .val (.ref 0), .val (.ref 58), .val (.int (nI (i + 7)))] [] M' Q) : zW X 1000 388 [.val (.ref 1000002), .val (.ref 0), .val (.ref 58), .val (.int (nI i))] [] M Q := by
  obtain ⟨hv, hP, hC, hM⟩ := hR
  have a1 : nI i + 1 = nI (i + 1) := nI_add i 1
  have c1 := n_cl (show i + 1 < 2 ^ 31 by omega)
  have v1 := n_in (show i + 1 < X.1 by omega) hx
  have a2 : nI i + 2 = nI (i + 2) := nI_add i 2
  have c2 := n_cl (show i + 2 < 2 ^ 31 by omega)
  have v2 := n_in (show i + 2 < X.1 by omega) hx
  have a7 : nI i + 7 = nI (i + 7) := nI_add i 7
  simp only [w1000_388, w1000_389, w1000_390, w1000_391, w1000_392, w1000_393, w1000_394, w1000_395, w1000_396, w1000_397, w1000_398, w1000_399, zk_sI, zk_sJ, zk_sP, zn_sI, zn_sJ, zn_sP, zI_sI, zI_sJ, zI_sP, zJ_sI, zJ_sJ, zJ_sP, zP_sI, zP_sJ, zP_sP, Option.toList_some, Option.toList_none, List.cons_append, List.nil_append, zk_of hP.1, zn_of hP.1, zix, ziN, ne_eq, reduceCtorEq, not_false_eq_true, true_and, and_true, Option.getD_some, Nat.reduceLeDiff, Nat.reduceLT, c_ofNat, zkd0, zp_0_0 hP, zp_0_1 hP, zp_0_2 hP, zp_0_3 hP, zp_0_4 hP, zp_0_5 hP, zp_0_6 hP, zp_0_7 hP, zkd58, zp_58_1 hP, zp_58_2 hP, zp_58_6 hP, zp_58_7 hP, zp_58_10 hP, zp_58_11 hP, zp_58_12 hP, zp_58_14 hP, zp_58_15 hP, zp_58_17 hP, zp_58_18 hP, zp_58_19 hP, zp_58_20 hP, zp_58_21 hP, zp_58_22 hP, zp_58_24 hP, zp_58_26 hP, zp_58_29 hP, zp_58_32 hP, zp_58_33 hP, zp_58_34 hP, zp_58_35 hP, zp_58_36 hP, zp_58_37 hP, zp_58_38 hP, zp_58_39 hP, wL_393 hP, wL_398 hP, a1, c1, v1, a2, c2, v2]
  refine C54 hP hC (fun M1 u1 k1 => ?_)
  have hP1 := u1.1
  simp only [w1000_402, w1000_403, w1000_404, w1000_405, w1000_406, w1000_407, w1000_408, w1000_409, w1000_410, w1000_411, w1000_412, w1000_413, zk_sI, zk_sJ, zk_sP, zn_sI, zn_sJ, zn_sP, zI_sI, zI_sJ, zI_sP, zJ_sI, zJ_sJ, zJ_sP, zP_sI, zP_sJ, zP_sP, Option.toList_some, Option.toList_none, List.cons_append, List.nil_append, zk_of hP1.1, zn_of hP1.1, zix, ziN, ne_eq, reduceCtorEq, not_false_eq_true, true_and, and_true, Option.getD_some, Nat.reduceLeDiff, Nat.reduceLT, c_ofNat, zkd0, zp_0_0 hP1, zp_0_1 hP1, zp_0_2 hP1, zp_0_3 hP1, zp_0_4 hP1, zp_0_5 hP1, zp_0_6 hP1, zp_0_7 hP1, zkd58, zp_58_1 hP1, zp_58_2 hP1, zp_58_6 hP1, zp_58_7 hP1, zp_58_10 hP1, zp_58_11 hP1, zp_58_12 hP1, zp_58_14 hP1, zp_58_15 hP1, zp_58_17 hP1, zp_58_18 hP1, zp_58_19 hP1, zp_58_20 hP1, zp_58_21 hP1, zp_58_22 hP1, zp_58_24 hP1, zp_58_26 hP1, zp_58_29 hP1, zp_58_32 hP1, zp_58_33 hP1, zp_58_34 hP1, zp_58_35 hP1, zp_58_36 hP1, zp_58_37 hP1, zp_58_38 hP1, zp_58_39 hP1, wL_407 hP1, wL_412 hP1, a1, c1, v1, a2, c2, v2]
  refine M113 hP1 (zKM_up hM u1) (fun M2 d2 m2 => ?_)
  have fin := nxt _ M2 ⟨hv, zPk_F hP1 d2, zKC_dn k1 d2, m2⟩
  simp only [w1000_416, w1000_1243, w1000_1246, zk_sI, zk_sJ, zk_sP, zn_sI, zn_sJ, zn_sP, zI_sI, zI_sJ, zI_sP, zJ_sI, zJ_sJ, zJ_sP, zP_sI, zP_sJ, zP_sP, Option.toList_some, Option.toList_none, List.cons_append, List.nil_append, a7, lc_eq, true_implies, not_true_eq_false, false_implies, and_true]
  exact fin
theorem law_5 (hR : zR q M) (hi : i + 7 ≤ X.1) (hx : X.1 < 2 ^ 31) (nxt : ∀ q' M', zR q' M' → zW X 1000 18 [.val (.ref 1000002), .val (.ref 0), .val (.ref 58), .val (.int (nI (i + 7)))] [] M' Q) : zW X 1000 421 [.val (.ref 1000002), .val (.ref 0), .val (.ref 58), .val (.int (nI i))] [] M Q := by
  obtain ⟨hv, hP, hC, hM⟩ := hR
  have a1 : nI i + 1 = nI (i + 1) := nI_add i 1
  have c1 := n_cl (show i + 1 < 2 ^ 31 by omega)
  have v1 := n_in (show i + 1 < X.1 by omega) hx
  have a2 : nI i + 2 = nI (i + 2) := nI_add i 2
  have c2 := n_cl (show i + 2 < 2 ^ 31 by omega)
  have v2 := n_in (show i + 2 < X.1 by omega) hx
  have a3 : nI i + 3 = nI (i + 3) := nI_add i 3
  have c3 := n_cl (show i + 3 < 2 ^ 31 by omega)
  have v3 := n_in (show i + 3 < X.1 by omega) hx
  have a7 : nI i + 7 = nI (i + 7) := nI_add i 7
  simp only [w1000_421, w1000_422, w1000_423, w1000_424, w1000_425, w1000_426, w1000_427, w1000_428, w1000_429, w1000_430, w1000_431, w1000_432, w1000_433, w1000_434, w1000_435, w1000_436, w1000_437, zk_sI, zk_sJ, zk_sP, zn_sI, zn_sJ, zn_sP, zI_sI, zI_sJ, zI_sP, zJ_sI, zJ_sJ, zJ_sP, zP_sI, zP_sJ, zP_sP, Option.toList_some, Option.toList_none, List.cons_append, List.nil_append, zk_of hP.1, zn_of hP.1, zix, ziN, ne_eq, reduceCtorEq, not_false_eq_true, true_and, and_true, Option.getD_some, Nat.reduceLeDiff, Nat.reduceLT, c_ofNat, zkd0, zp_0_0 hP, zp_0_1 hP, zp_0_2 hP, zp_0_3 hP, zp_0_4 hP, zp_0_5 hP, zp_0_6 hP, zp_0_7 hP, zkd58, zp_58_1 hP, zp_58_2 hP, zp_58_6 hP, zp_58_7 hP, zp_58_10 hP, zp_58_11 hP, zp_58_12 hP, zp_58_14 hP, zp_58_15 hP, zp_58_17 hP, zp_58_18 hP, zp_58_19 hP, zp_58_20 hP, zp_58_21 hP, zp_58_22 hP, zp_58_24 hP, zp_58_26 hP, zp_58_29 hP, zp_58_32 hP, zp_58_33 hP, zp_58_34 hP, zp_58_35 hP, zp_58_36 hP, zp_58_37 hP, zp_58_38 hP, zp_58_39 hP, wL_426 hP, wL_431 hP, wL_436 hP, a1, c1, v1, a2, c2, v2, a3, c3, v3]
  refine C55 hP hC (fun M1 u1 k1 => ?_)
  have hP1 := u1.1
  simp only [w1000_440, w1000_441, w1000_442, w1000_443, w1000_444, w1000_445, w1000_446, w1000_447, w1000_448, w1000_449, w1000_450, w1000_451, w1000_452, w1000_453, w1000_454, w1000_455, w1000_456, zk_sI, zk_sJ, zk_sP, zn_sI, zn_sJ, zn_sP, zI_sI, zI_sJ, zI_sP, zJ_sI, zJ_sJ, zJ_sP, zP_sI, zP_sJ, zP_sP, Option.toList_some, Option.toList_none, List.cons_append, List.nil_append, zk_of hP1.1, zn_of hP1.1, zix, ziN, ne_eq, reduceCtorEq, not_false_eq_true, true_and, and_true, Option.getD_some, Nat.reduceLeDiff, Nat.reduceLT, c_ofNat, zkd0, zp_0_0 hP1, zp_0_1 hP1, zp_0_2 hP1, zp_0_3 hP1, zp_0_4 hP1, zp_0_5 hP1, zp_0_6 hP1, zp_0_7 hP1, zkd58, zp_58_1 hP1, zp_58_2 hP1, zp_58_6 hP1, zp_58_7 hP1, zp_58_10 hP1, zp_58_11 hP1, zp_58_12 hP1, zp_58_14 hP1, zp_58_15 hP1, zp_58_17 hP1, zp_58_18 hP1, zp_58_19 hP1, zp_58_20 hP1, zp_58_21 hP1, zp_58_22 hP1, zp_58_24 hP1, zp_58_26 hP1, zp_58_29 hP1, zp_58_32 hP1, zp_58_33 hP1, zp_58_34 hP1, zp_58_35 hP1, zp_58_36 hP1, zp_58_37 hP1, zp_58_38 hP1, zp_58_39 hP1, wL_445 hP1, wL_450 hP1, wL_455 hP1, a1, c1, v1, a2, c2, v2, a3, c3, v3]
  refine M114 hP1 (zKM_up hM u1) (fun M2 d2 m2 => ?_)
  have fin := nxt _ M2 ⟨vLaws _ _ _ hv, zPk_F hP1 d2, zKC_dn k1 d2, m2⟩
  simp only [w1000_459, w1000_1243, w1000_1246, zk_sI, zk_sJ, zk_sP, zn_sI, zn_sJ, zn_sP, zI_sI, zI_sJ, zI_sP, zJ_sI, zJ_sJ, zJ_sP, zP_sI, zP_sJ, zP_sP, Option.toList_some, Option.toList_none, List.cons_append, List.nil_append, a7, lc_eq, true_implies, not_true_eq_false, false_implies, and_true]
  exact fin
theorem law_6 (hR : zR q M) (hi : i + 7 ≤ X.1) (hx : X.1 < 2 ^ 31) (nxt : ∀ q' M', zR q' M' → zW X 1000 18 [.val (.ref 1000002), .val (.ref 0), .val (.ref 58), .val (.int (nI (i + 7)))] [] M' Q) : zW X 1000 464 [.val (.ref 1000002), .val (.ref 0), .val (.ref 58), .val (.int (nI i))] [] M Q := by
  obtain ⟨hv, hP, hC, hM⟩ := hR
  have a7 : nI i + 7 = nI (i + 7) := nI_add i 7
  simp only [w1000_464, w1000_465, zk_sI, zk_sJ, zk_sP, zn_sI, zn_sJ, zn_sP, zI_sI, zI_sJ, zI_sP, zJ_sI, zJ_sJ, zJ_sP, zP_sI, zP_sJ, zP_sP, Option.toList_some, Option.toList_none, List.cons_append, List.nil_append, zk_of hP.1, zn_of hP.1, zix, ziN, ne_eq, reduceCtorEq, not_false_eq_true, true_and, and_true, Option.getD_some, Nat.reduceLeDiff, Nat.reduceLT, c_ofNat, zkd0, zp_0_0 hP, zp_0_1 hP, zp_0_2 hP, zp_0_3 hP, zp_0_4 hP, zp_0_5 hP, zp_0_6 hP, zp_0_7 hP, zkd58, zp_58_1 hP, zp_58_2 hP, zp_58_6 hP, zp_58_7 hP, zp_58_10 hP, zp_58_11 hP, zp_58_12 hP, zp_58_14 hP, zp_58_15 hP, zp_58_17 hP, zp_58_18 hP, zp_58_19 hP, zp_58_20 hP, zp_58_21 hP, zp_58_22 hP, zp_58_24 hP, zp_58_26 hP, zp_58_29 hP, zp_58_32 hP, zp_58_33 hP, zp_58_34 hP, zp_58_35 hP, zp_58_36 hP, zp_58_37 hP, zp_58_38 hP, zp_58_39 hP]
  refine C56 hP hC (fun M1 u1 k1 => ?_)
  have hP1 := u1.1
  simp only [w1000_468, w1000_469, zk_sI, zk_sJ, zk_sP, zn_sI, zn_sJ, zn_sP, zI_sI, zI_sJ, zI_sP, zJ_sI, zJ_sJ, zJ_sP, zP_sI, zP_sJ, zP_sP, Option.toList_some, Option.toList_none, List.cons_append, List.nil_append, zk_of hP1.1, zn_of hP1.1, zix, ziN, ne_eq, reduceCtorEq, not_false_eq_true, true_and, and_true, Option.getD_some, Nat.reduceLeDiff, Nat.reduceLT, c_ofNat, zkd0, zp_0_0 hP1, zp_0_1 hP1, zp_0_2 hP1, zp_0_3 hP1, zp_0_4 hP1, zp_0_5 hP1, zp_0_6 hP1, zp_0_7 hP1, zkd58, zp_58_1 hP1, zp_58_2 hP1, zp_58_6 hP1, zp_58_7 hP1, zp_58_10 hP1, zp_58_11 hP1, zp_58_12 hP1, zp_58_14 hP1, zp_58_15 hP1, zp_58_17 hP1, zp_58_18 hP1, zp_58_19 hP1, zp_58_20 hP1, zp_58_21 hP1, zp_58_22 hP1, zp_58_24 hP1, zp_58_26 hP1, zp_58_29 hP1, zp_58_32 hP1, zp_58_33 hP1, zp_58_34 hP1, zp_58_35 hP1, zp_58_36 hP1, zp_58_37 hP1, zp_58_38 hP1, zp_58_39 hP1]
  refine M132 hv hP1 (zKM_up hM u1) (fun M2 d2 m2 => ?_)
  have fin := nxt _ M2 ⟨hv, zPk_F hP1 d2, zKC_dn k1 d2, m2⟩
  simp only [w1000_472, w1000_1243, w1000_1246, zk_sI, zk_sJ, zk_sP, zn_sI, zn_sJ, zn_sP, zI_sI, zI_sJ, zI_sP, zJ_sI, zJ_sJ, zJ_sP, zP_sI, zP_sJ, zP_sP, Option.toList_some, Option.toList_none, List.cons_append, List.nil_append, a7, lc_eq, true_implies, not_true_eq_false, false_implies, and_true]
  exact fin
theorem law_7 (hR : zR q M) (hi : i + 7 ≤ X.1) (hx : X.1 < 2 ^ 31) (nxt : ∀ q' M', zR q' M' → zW X 1000 18 [.val (.ref 1000002), .val (.ref 0), .val (.ref 58), .val (.int (nI (i + 7)))] [] M' Q) : zW X 1000 477 [.val (.ref 1000002), .val (.ref 0), .val (.ref 58), .val (.int (nI i))] [] M Q := by
  obtain ⟨hv, hP, hC, hM⟩ := hR
  have a7 : nI i + 7 = nI (i + 7) := nI_add i 7
  simp only [w1000_477, w1000_478, zk_sI, zk_sJ, zk_sP, zn_sI, zn_sJ, zn_sP, zI_sI, zI_sJ, zI_sP, zJ_sI, zJ_sJ, zJ_sP, zP_sI, zP_sJ, zP_sP, Option.toList_some, Option.toList_none, List.cons_append, List.nil_append, zk_of hP.1, zn_of hP.1, zix, ziN, ne_eq, reduceCtorEq, not_false_eq_true, true_and, and_true, Option.getD_some, Nat.reduceLeDiff, Nat.reduceLT, c_ofNat, zkd0, zp_0_0 hP, zp_0_1 hP, zp_0_2 hP, zp_0_3 hP, zp_0_4 hP, zp_0_5 hP, zp_0_6 hP, zp_0_7 hP, zkd58, zp_58_1 hP, zp_58_2 hP, zp_58_6 hP, zp_58_7 hP, zp_58_10 hP, zp_58_11 hP, zp_58_12 hP, zp_58_14 hP, zp_58_15 hP, zp_58_17 hP, zp_58_18 hP, zp_58_19 hP, zp_58_20 hP, zp_58_21 hP, zp_58_22 hP, zp_58_24 hP, zp_58_26 hP, zp_58_29 hP, zp_58_32 hP, zp_58_33 hP, zp_58_34 hP, zp_58_35 hP, zp_58_36 hP, zp_58_37 hP, zp_58_38 hP, zp_58_39 hP]
  refine C57 hv hP hC (fun M1 u1 k1 => ?_)
  have hP1 := u1.1
  simp only [w1000_481, w1000_482, zk_sI, zk_sJ, zk_sP, zn_sI, zn_sJ, zn_sP, zI_sI, zI_sJ, zI_sP, zJ_sI, zJ_sJ, zJ_sP, zP_sI, zP_sJ, zP_sP, Option.toList_some, Option.toList_none, List.cons_append, List.nil_append, zk_of hP1.1, zn_of hP1.1, zix, ziN, ne_eq, reduceCtorEq, not_false_eq_true, true_and, and_true, Option.getD_some, Nat.reduceLeDiff, Nat.reduceLT, c_ofNat, zkd0, zp_0_0 hP1, zp_0_1 hP1, zp_0_2 hP1, zp_0_3 hP1, zp_0_4 hP1, zp_0_5 hP1, zp_0_6 hP1, zp_0_7 hP1, zkd58, zp_58_1 hP1, zp_58_2 hP1, zp_58_6 hP1, zp_58_7 hP1, zp_58_10 hP1, zp_58_11 hP1, zp_58_12 hP1, zp_58_14 hP1, zp_58_15 hP1, zp_58_17 hP1, zp_58_18 hP1, zp_58_19 hP1, zp_58_20 hP1, zp_58_21 hP1, zp_58_22 hP1, zp_58_24 hP1, zp_58_26 hP1, zp_58_29 hP1, zp_58_32 hP1, zp_58_33 hP1, zp_58_34 hP1, zp_58_35 hP1, zp_58_36 hP1, zp_58_37 hP1, zp_58_38 hP1, zp_58_39 hP1]
  refine M133 hv hP1 (zKM_up hM u1) (fun M2 d2 m2 => ?_)
  have fin := nxt _ M2 ⟨hv, zPk_F hP1 d2, zKC_dn k1 d2, m2⟩
  simp only [w1000_485, w1000_486, w1000_1243, w1000_1246, zk_sI, zk_sJ, zk_sP, zn_sI, zn_sJ, zn_sP, zI_sI, zI_sJ, zI_sP, zJ_sI, zJ_sJ, zJ_sP, zP_sI, zP_sJ, zP_sP, Option.toList_some, Option.toList_none, List.cons_append, List.nil_append, a7, lc_eq, true_implies, not_true_eq_false, false_implies, and_true]
  exact fin
theorem law_8 (hR : zR q M) (hi : i + 7 ≤ X.1) (hx : X.1 < 2 ^ 31) (nxt : ∀ q' M', zR q' M' → zW X 1000 18 [.val (.ref 1000002), .val (.ref 0), .val (.ref 58), .val (.int (nI (i + 7)))] [] M' Q) : zW X 1000 491 [.val (.ref 1000002), .val (.ref 0), .val (.ref 58), .val (.int (nI i))] [] M Q := by
  obtain ⟨hv, hP, hC, hM⟩ := hR
  have a1 : nI i + 1 = nI (i + 1) := nI_add i 1
  have c1 := n_cl (show i + 1 < 2 ^ 31 by omega)
  have v1 := n_in (show i + 1 < X.1 by omega) hx
  have a7 : nI i + 7 = nI (i + 7) := nI_add i 7
  simp only [w1000_491, w1000_492, w1000_493, w1000_494, w1000_495, w1000_496, w1000_497, zk_sI, zk_sJ, zk_sP, zn_sI, zn_sJ, zn_sP, zI_sI, zI_sJ, zI_sP, zJ_sI, zJ_sJ, zJ_sP, zP_sI, zP_sJ, zP_sP, Option.toList_some, Option.toList_none, List.cons_append, List.nil_append, zk_of hP.1, zn_of hP.1, zix, ziN, ne_eq, reduceCtorEq, not_false_eq_true, true_and, and_true, Option.getD_some, Nat.reduceLeDiff, Nat.reduceLT, c_ofNat, zkd0, zp_0_0 hP, zp_0_1 hP, zp_0_2 hP, zp_0_3 hP, zp_0_4 hP, zp_0_5 hP, zp_0_6 hP, zp_0_7 hP, zkd58, zp_58_1 hP, zp_58_2 hP, zp_58_6 hP, zp_58_7 hP, zp_58_10 hP, zp_58_11 hP, zp_58_12 hP, zp_58_14 hP, zp_58_15 hP, zp_58_17 hP, zp_58_18 hP, zp_58_19 hP, zp_58_20 hP, zp_58_21 hP, zp_58_22 hP, zp_58_24 hP, zp_58_26 hP, zp_58_29 hP, zp_58_32 hP, zp_58_33 hP, zp_58_34 hP, zp_58_35 hP, zp_58_36 hP, zp_58_37 hP, zp_58_38 hP, zp_58_39 hP, wL_496 hP, a1, c1, v1]
  refine C58 hv hP hC (fun M1 u1 k1 => ?_)
  have hP1 := u1.1
  simp only [w1000_500, w1000_501, w1000_502, w1000_503, w1000_504, w1000_505, w1000_506, zk_sI, zk_sJ, zk_sP, zn_sI, zn_sJ, zn_sP, zI_sI, zI_sJ, zI_sP, zJ_sI, zJ_sJ, zJ_sP, zP_sI, zP_sJ, zP_sP, Option.toList_some, Option.toList_none, List.cons_append, List.nil_append, zk_of hP1.1, zn_of hP1.1, zix, ziN, ne_eq, reduceCtorEq, not_false_eq_true, true_and, and_true, Option.getD_some, Nat.reduceLeDiff, Nat.reduceLT, c_ofNat, zkd0, zp_0_0 hP1, zp_0_1 hP1, zp_0_2 hP1, zp_0_3 hP1, zp_0_4 hP1, zp_0_5 hP1, zp_0_6 hP1, zp_0_7 hP1, zkd58, zp_58_1 hP1, zp_58_2 hP1, zp_58_6 hP1, zp_58_7 hP1, zp_58_10 hP1, zp_58_11 hP1, zp_58_12 hP1, zp_58_14 hP1, zp_58_15 hP1, zp_58_17 hP1, zp_58_18 hP1, zp_58_19 hP1, zp_58_20 hP1, zp_58_21 hP1, zp_58_22 hP1, zp_58_24 hP1, zp_58_26 hP1, zp_58_29 hP1, zp_58_32 hP1, zp_58_33 hP1, zp_58_34 hP1, zp_58_35 hP1, zp_58_36 hP1, zp_58_37 hP1, zp_58_38 hP1, zp_58_39 hP1, wL_505 hP1, a1, c1, v1]
  refine M134 hv hP1 (zKM_up hM u1) (fun M2 d2 m2 => ?_)
  have fin := nxt _ M2 ⟨hv, zPk_F hP1 d2, zKC_dn k1 d2, m2⟩
  simp only [w1000_509, w1000_510, w1000_1243, w1000_1246, zk_sI, zk_sJ, zk_sP, zn_sI, zn_sJ, zn_sP, zI_sI, zI_sJ, zI_sP, zJ_sI, zJ_sJ, zJ_sP, zP_sI, zP_sJ, zP_sP, Option.toList_some, Option.toList_none, List.cons_append, List.nil_append, a7, lc_eq, true_implies, not_true_eq_false, false_implies, and_true]
  exact fin
theorem law_9 (hR : zR q M) (hi : i + 7 ≤ X.1) (hx : X.1 < 2 ^ 31) (nxt : ∀ q' M', zR q' M' → zW X 1000 18 [.val (.ref 1000002), .val (.ref 0), .val (.ref 58), .val (.int (nI (i + 7)))] [] M' Q) : zW X 1000 515 [.val (.ref 1000002), .val (.ref 0), .val (.ref 58), .val (.int (nI i))] [] M Q := by
  obtain ⟨hv, hP, hC, hM⟩ := hR
  have a7 : nI i + 7 = nI (i + 7) := nI_add i 7
  simp only [w1000_515, w1000_516, zk_sI, zk_sJ, zk_sP, zn_sI, zn_sJ, zn_sP, zI_sI, zI_sJ, zI_sP, zJ_sI, zJ_sJ, zJ_sP, zP_sI, zP_sJ, zP_sP, Option.toList_some, Option.toList_none, List.cons_append, List.nil_append, zk_of hP.1, zn_of hP.1, zix, ziN, ne_eq, reduceCtorEq, not_false_eq_true, true_and, and_true, Option.getD_some, Nat.reduceLeDiff, Nat.reduceLT, c_ofNat, zkd0, zp_0_0 hP, zp_0_1 hP, zp_0_2 hP, zp_0_3 hP, zp_0_4 hP, zp_0_5 hP, zp_0_6 hP, zp_0_7 hP, zkd58, zp_58_1 hP, zp_58_2 hP, zp_58_6 hP, zp_58_7 hP, zp_58_10 hP, zp_58_11 hP, zp_58_12 hP, zp_58_14 hP, zp_58_15 hP, zp_58_17 hP, zp_58_18 hP, zp_58_19 hP, zp_58_20 hP, zp_58_21 hP, zp_58_22 hP, zp_58_24 hP, zp_58_26 hP, zp_58_29 hP, zp_58_32 hP, zp_58_33 hP, zp_58_34 hP, zp_58_35 hP, zp_58_36 hP, zp_58_37 hP, zp_58_38 hP, zp_58_39 hP]
  refine C59 hv hP hC (fun M1 u1 k1 => ?_)
  have hP1 := u1.1
  simp only [w1000_519, w1000_520, zk_sI, zk_sJ, zk_sP, zn_sI, zn_sJ, zn_sP, zI_sI, zI_sJ, zI_sP, zJ_sI, zJ_sJ, zJ_sP, zP_sI, zP_sJ, zP_sP, Option.toList_some, Option.toList_none, List.cons_append, List.nil_append, zk_of hP1.1, zn_of hP1.1, zix, ziN, ne_eq, reduceCtorEq, not_false_eq_true, true_and, and_true, Option.getD_some, Nat.reduceLeDiff, Nat.reduceLT, c_ofNat, zkd0, zp_0_0 hP1, zp_0_1 hP1, zp_0_2 hP1, zp_0_3 hP1, zp_0_4 hP1, zp_0_5 hP1, zp_0_6 hP1, zp_0_7 hP1, zkd58, zp_58_1 hP1, zp_58_2 hP1, zp_58_6 hP1, zp_58_7 hP1, zp_58_10 hP1, zp_58_11 hP1, zp_58_12 hP1, zp_58_14 hP1, zp_58_15 hP1, zp_58_17 hP1, zp_58_18 hP1, zp_58_19 hP1, zp_58_20 hP1, zp_58_21 hP1, zp_58_22 hP1, zp_58_24 hP1, zp_58_26 hP1, zp_58_29 hP1, zp_58_32 hP1, zp_58_33 hP1, zp_58_34 hP1, zp_58_35 hP1, zp_58_36 hP1, zp_58_37 hP1, zp_58_38 hP1, zp_58_39 hP1]
  refine M135 hv hP1 (zKM_up hM u1) (fun M2 d2 m2 => ?_)
  have fin := nxt _ M2 ⟨hv, zPk_F hP1 d2, zKC_dn k1 d2, m2⟩
  simp only [w1000_523, w1000_1243, w1000_1246, zk_sI, zk_sJ, zk_sP, zn_sI, zn_sJ, zn_sP, zI_sI, zI_sJ, zI_sP, zJ_sI, zJ_sJ, zJ_sP, zP_sI, zP_sJ, zP_sP, Option.toList_some, Option.toList_none, List.cons_append, List.nil_append, a7, lc_eq, true_implies, not_true_eq_false, false_implies, and_true]
  exact fin
theorem law_10 (hR : zR q M) (hi : i + 7 ≤ X.1) (hx : X.1 < 2 ^ 31) (nxt : ∀ q' M', zR q' M' → zW X 1000 18 [.val (.ref 1000002), .val (.ref 0), .val (.ref 58), .val (.int (nI (i + 7)))] [] M' Q) : zW X 1000 528 [.val (.ref 1000002), .val (.ref 0), .val (.ref 58), .val (.int (nI i))] [] M Q := by
  obtain ⟨hv, hP, hC, hM⟩ := hR
  have a1 : nI i + 1 = nI (i + 1) := nI_add i 1
  have c1 := n_cl (show i + 1 < 2 ^ 31 by omega)
  have v1 := n_in (show i + 1 < X.1 by omega) hx
  have a2 : nI i + 2 = nI (i + 2) := nI_add i 2
  have c2 := n_cl (show i + 2 < 2 ^ 31 by omega)
  have v2 := n_in (show i + 2 < X.1 by omega) hx
  have a3 : nI i + 3 = nI (i + 3) := nI_add i 3
  have c3 := n_cl (show i + 3 < 2 ^ 31 by omega)
  have v3 := n_in (show i + 3 < X.1 by omega) hx
  have a4 : nI i + 4 = nI (i + 4) := nI_add i 4
  have c4 := n_cl (show i + 4 < 2 ^ 31 by omega)
  have v4 := n_in (show i + 4 < X.1 by omega) hx
  have a7 : nI i + 7 = nI (i + 7) := nI_add i 7
  simp only [w1000_528, w1000_529, w1000_530, w1000_531, w1000_532, w1000_533, w1000_534, w1000_535, w1000_536, w1000_537, w1000_538, w1000_539, w1000_540, w1000_541, w1000_542, w1000_543, w1000_544, w1000_545, w1000_546, w1000_547, w1000_548, w1000_549, zk_sI, zk_sJ, zk_sP, zn_sI, zn_sJ, zn_sP, zI_sI, zI_sJ, zI_sP, zJ_sI, zJ_sJ, zJ_sP, zP_sI, zP_sJ, zP_sP, Option.toList_some, Option.toList_none, List.cons_append, List.nil_append, zk_of hP.1, zn_of hP.1, zix, ziN, ne_eq, reduceCtorEq, not_false_eq_true, true_and, and_true, Option.getD_some, Nat.reduceLeDiff, Nat.reduceLT, c_ofNat, zkd0, zp_0_0 hP, zp_0_1 hP, zp_0_2 hP, zp_0_3 hP, zp_0_4 hP, zp_0_5 hP, zp_0_6 hP, zp_0_7 hP, zkd58, zp_58_1 hP, zp_58_2 hP, zp_58_6 hP, zp_58_7 hP, zp_58_10 hP, zp_58_11 hP, zp_58_12 hP, zp_58_14 hP, zp_58_15 hP, zp_58_17 hP, zp_58_18 hP, zp_58_19 hP, zp_58_20 hP, zp_58_21 hP, zp_58_22 hP, zp_58_24 hP, zp_58_26 hP, zp_58_29 hP, zp_58_32 hP, zp_58_33 hP, zp_58_34 hP, zp_58_35 hP, zp_58_36 hP, zp_58_37 hP, zp_58_38 hP, zp_58_39 hP, wL_533 hP, wL_538 hP, wL_543 hP, wL_548 hP, a1, c1, v1, a2, c2, v2, a3, c3, v3, a4, c4, v4]
  refine C60 hv hP hC (fun M1 u1 k1 => ?_)
  have hP1 := u1.1
  simp only [w1000_552, w1000_553, w1000_554, w1000_555, w1000_556, w1000_557, w1000_558, w1000_559, w1000_560, w1000_561, w1000_562, w1000_563, w1000_564, w1000_565, w1000_566, w1000_567, w1000_568, w1000_569, w1000_570, w1000_571, w1000_572, w1000_573, zk_sI, zk_sJ, zk_sP, zn_sI, zn_sJ, zn_sP, zI_sI, zI_sJ, zI_sP, zJ_sI, zJ_sJ, zJ_sP, zP_sI, zP_sJ, zP_sP, Option.toList_some, Option.toList_none, List.cons_append, List.nil_append, zk_of hP1.1, zn_of hP1.1, zix, ziN, ne_eq, reduceCtorEq, not_false_eq_true, true_and, and_true, Option.getD_some, Nat.reduceLeDiff, Nat.reduceLT, c_ofNat, zkd0, zp_0_0 hP1, zp_0_1 hP1, zp_0_2 hP1, zp_0_3 hP1, zp_0_4 hP1, zp_0_5 hP1, zp_0_6 hP1, zp_0_7 hP1, zkd58, zp_58_1 hP1, zp_58_2 hP1, zp_58_6 hP1, zp_58_7 hP1, zp_58_10 hP1, zp_58_11 hP1, zp_58_12 hP1, zp_58_14 hP1, zp_58_15 hP1, zp_58_17 hP1, zp_58_18 hP1, zp_58_19 hP1, zp_58_20 hP1, zp_58_21 hP1, zp_58_22 hP1, zp_58_24 hP1, zp_58_26 hP1, zp_58_29 hP1, zp_58_32 hP1, zp_58_33 hP1, zp_58_34 hP1, zp_58_35 hP1, zp_58_36 hP1, zp_58_37 hP1, zp_58_38 hP1, zp_58_39 hP1, wL_557 hP1, wL_562 hP1, wL_567 hP1, wL_572 hP1, a1, c1, v1, a2, c2, v2, a3, c3, v3, a4, c4, v4]
  refine M136 hv hP1 (zKM_up hM u1) (fun M2 d2 m2 => ?_)
  have fin := nxt _ M2 ⟨hv, zPk_F hP1 d2, zKC_dn k1 d2, m2⟩
  simp only [w1000_576, w1000_577, w1000_1243, w1000_1246, zk_sI, zk_sJ, zk_sP, zn_sI, zn_sJ, zn_sP, zI_sI, zI_sJ, zI_sP, zJ_sI, zJ_sJ, zJ_sP, zP_sI, zP_sJ, zP_sP, Option.toList_some, Option.toList_none, List.cons_append, List.nil_append, a7, lc_eq, true_implies, not_true_eq_false, false_implies, and_true]
  exact fin
theorem law_11 (hR : zR q M) (hi : i + 7 ≤ X.1) (hx : X.1 < 2 ^ 31) (nxt : ∀ q' M', zR q' M' → zW X 1000 18 [.val (.ref 1000002), .val (.ref 0), .val (.ref 58), .val (.int (nI (i + 7)))] [] M' Q) : zW X 1000 582 [.val (.ref 1000002), .val (.ref 0), .val (.ref 58), .val (.int (nI i))] [] M Q := by
  obtain ⟨hv, hP, hC, hM⟩ := hR
  have a7 : nI i + 7 = nI (i + 7) := nI_add i 7
  simp only [w1000_582, w1000_583, zk_sI, zk_sJ, zk_sP, zn_sI, zn_sJ, zn_sP, zI_sI, zI_sJ, zI_sP, zJ_sI, zJ_sJ, zJ_sP, zP_sI, zP_sJ, zP_sP, Option.toList_some, Option.toList_none, List.cons_append, List.nil_append, zk_of hP.1, zn_of hP.1, zix, ziN, ne_eq, reduceCtorEq, not_false_eq_true, true_and, and_true, Option.getD_some, Nat.reduceLeDiff, Nat.reduceLT, c_ofNat, zkd0, zp_0_0 hP, zp_0_1 hP, zp_0_2 hP, zp_0_3 hP, zp_0_4 hP, zp_0_5 hP, zp_0_6 hP, zp_0_7 hP, zkd58, zp_58_1 hP, zp_58_2 hP, zp_58_6 hP, zp_58_7 hP, zp_58_10 hP, zp_58_11 hP, zp_58_12 hP, zp_58_14 hP, zp_58_15 hP, zp_58_17 hP, zp_58_18 hP, zp_58_19 hP, zp_58_20 hP, zp_58_21 hP, zp_58_22 hP, zp_58_24 hP, zp_58_26 hP, zp_58_29 hP, zp_58_32 hP, zp_58_33 hP, zp_58_34 hP, zp_58_35 hP, zp_58_36 hP, zp_58_37 hP, zp_58_38 hP, zp_58_39 hP]
  refine C61 hv hP hC (fun M1 u1 k1 => ?_)
  have hP1 := u1.1
  simp only [w1000_586, w1000_587, zk_sI, zk_sJ, zk_sP, zn_sI, zn_sJ, zn_sP, zI_sI, zI_sJ, zI_sP, zJ_sI, zJ_sJ, zJ_sP, zP_sI, zP_sJ, zP_sP, Option.toList_some, Option.toList_none, List.cons_append, List.nil_append, zk_of hP1.1, zn_of hP1.1, zix, ziN, ne_eq, reduceCtorEq, not_false_eq_true, true_and, and_true, Option.getD_some, Nat.reduceLeDiff, Nat.reduceLT, c_ofNat, zkd0, zp_0_0 hP1, zp_0_1 hP1, zp_0_2 hP1, zp_0_3 hP1, zp_0_4 hP1, zp_0_5 hP1, zp_0_6 hP1, zp_0_7 hP1, zkd58, zp_58_1 hP1, zp_58_2 hP1, zp_58_6 hP1, zp_58_7 hP1, zp_58_10 hP1, zp_58_11 hP1, zp_58_12 hP1, zp_58_14 hP1, zp_58_15 hP1, zp_58_17 hP1, zp_58_18 hP1, zp_58_19 hP1, zp_58_20 hP1, zp_58_21 hP1, zp_58_22 hP1, zp_58_24 hP1, zp_58_26 hP1, zp_58_29 hP1, zp_58_32 hP1, zp_58_33 hP1, zp_58_34 hP1, zp_58_35 hP1, zp_58_36 hP1, zp_58_37 hP1, zp_58_38 hP1, zp_58_39 hP1]
  refine M137 hv hP1 (zKM_up hM u1) (fun M2 d2 m2 => ?_)
  have fin := nxt _ M2 ⟨hv, zPk_F hP1 d2, zKC_dn k1 d2, m2⟩
  simp only [w1000_590, w1000_1243, w1000_1246, zk_sI, zk_sJ, zk_sP, zn_sI, zn_sJ, zn_sP, zI_sI, zI_sJ, zI_sP, zJ_sI, zJ_sJ, zJ_sP, zP_sI, zP_sJ, zP_sP, Option.toList_some, Option.toList_none, List.cons_append, List.nil_append, a7, lc_eq, true_implies, not_true_eq_false, false_implies, and_true]
  exact fin
theorem law_12 (hR : zR q M) (hi : i + 7 ≤ X.1) (hx : X.1 < 2 ^ 31) (nxt : ∀ q' M', zR q' M' → zW X 1000 18 [.val (.ref 1000002), .val (.ref 0), .val (.ref 58), .val (.int (nI (i + 7)))] [] M' Q) : zW X 1000 595 [.val (.ref 1000002), .val (.ref 0), .val (.ref 58), .val (.int (nI i))] [] M Q := by
  obtain ⟨hv, hP, hC, hM⟩ := hR
  have a1 : nI i + 1 = nI (i + 1) := nI_add i 1
  have c1 := n_cl (show i + 1 < 2 ^ 31 by omega)
  have v1 := n_in (show i + 1 < X.1 by omega) hx
  have a7 : nI i + 7 = nI (i + 7) := nI_add i 7
  simp only [w1000_595, w1000_596, w1000_597, w1000_598, w1000_599, w1000_600, w1000_601, zk_sI, zk_sJ, zk_sP, zn_sI, zn_sJ, zn_sP, zI_sI, zI_sJ, zI_sP, zJ_sI, zJ_sJ, zJ_sP, zP_sI, zP_sJ, zP_sP, Option.toList_some, Option.toList_none, List.cons_append, List.nil_append, zk_of hP.1, zn_of hP.1, zix, ziN, ne_eq, reduceCtorEq, not_false_eq_true, true_and, and_true, Option.getD_some, Nat.reduceLeDiff, Nat.reduceLT, c_ofNat, zkd0, zp_0_0 hP, zp_0_1 hP, zp_0_2 hP, zp_0_3 hP, zp_0_4 hP, zp_0_5 hP, zp_0_6 hP, zp_0_7 hP, zkd58, zp_58_1 hP, zp_58_2 hP, zp_58_6 hP, zp_58_7 hP, zp_58_10 hP, zp_58_11 hP, zp_58_12 hP, zp_58_14 hP, zp_58_15 hP, zp_58_17 hP, zp_58_18 hP, zp_58_19 hP, zp_58_20 hP, zp_58_21 hP, zp_58_22 hP, zp_58_24 hP, zp_58_26 hP, zp_58_29 hP, zp_58_32 hP, zp_58_33 hP, zp_58_34 hP, zp_58_35 hP, zp_58_36 hP, zp_58_37 hP, zp_58_38 hP, zp_58_39 hP, wL_600 hP, a1, c1, v1]
  refine C62 hv hP hC (fun M1 u1 k1 => ?_)
  have hP1 := u1.1
  simp only [w1000_604, w1000_605, w1000_606, w1000_607, w1000_608, w1000_609, w1000_610, zk_sI, zk_sJ, zk_sP, zn_sI, zn_sJ, zn_sP, zI_sI, zI_sJ, zI_sP, zJ_sI, zJ_sJ, zJ_sP, zP_sI, zP_sJ, zP_sP, Option.toList_some, Option.toList_none, List.cons_append, List.nil_append, zk_of hP1.1, zn_of hP1.1, zix, ziN, ne_eq, reduceCtorEq, not_false_eq_true, true_and, and_true, Option.getD_some, Nat.reduceLeDiff, Nat.reduceLT, c_ofNat, zkd0, zp_0_0 hP1, zp_0_1 hP1, zp_0_2 hP1, zp_0_3 hP1, zp_0_4 hP1, zp_0_5 hP1, zp_0_6 hP1, zp_0_7 hP1, zkd58, zp_58_1 hP1, zp_58_2 hP1, zp_58_6 hP1, zp_58_7 hP1, zp_58_10 hP1, zp_58_11 hP1, zp_58_12 hP1, zp_58_14 hP1, zp_58_15 hP1, zp_58_17 hP1, zp_58_18 hP1, zp_58_19 hP1, zp_58_20 hP1, zp_58_21 hP1, zp_58_22 hP1, zp_58_24 hP1, zp_58_26 hP1, zp_58_29 hP1, zp_58_32 hP1, zp_58_33 hP1, zp_58_34 hP1, zp_58_35 hP1, zp_58_36 hP1, zp_58_37 hP1, zp_58_38 hP1, zp_58_39 hP1, wL_609 hP1, a1, c1, v1]
  refine M138 hv hP1 (zKM_up hM u1) (fun M2 d2 m2 => ?_)
  have fin := nxt _ M2 ⟨hv, zPk_F hP1 d2, zKC_dn k1 d2, m2⟩
  simp only [w1000_613, w1000_614, w1000_1243, w1000_1246, zk_sI, zk_sJ, zk_sP, zn_sI, zn_sJ, zn_sP, zI_sI, zI_sJ, zI_sP, zJ_sI, zJ_sJ, zJ_sP, zP_sI, zP_sJ, zP_sP, Option.toList_some, Option.toList_none, List.cons_append, List.nil_append, a7, lc_eq, true_implies, not_true_eq_false, false_implies, and_true]
  exact fin
theorem law_13 (hR : zR q M) (hi : i + 7 ≤ X.1) (hx : X.1 < 2 ^ 31) (nxt : ∀ q' M', zR q' M' → zW X 1000 18 [.val (.ref 1000002), .val (.ref 0), .val (.ref 58), .val (.int (nI (i + 7)))] [] M' Q) : zW X 1000 619 [.val (.ref 1000002), .val (.ref 0), .val (.ref 58), .val (.int (nI i))] [] M Q := by
  obtain ⟨hv, hP, hC, hM⟩ := hR
  have a1 : nI i + 1 = nI (i + 1) := nI_add i 1
  have c1 := n_cl (show i + 1 < 2 ^ 31 by omega)
  have v1 := n_in (show i + 1 < X.1 by omega) hx
  have a2 : nI i + 2 = nI (i + 2) := nI_add i 2
  have c2 := n_cl (show i + 2 < 2 ^ 31 by omega)
  have v2 := n_in (show i + 2 < X.1 by omega) hx
  have a7 : nI i + 7 = nI (i + 7) := nI_add i 7
  simp only [w1000_619, w1000_620, w1000_621, w1000_622, w1000_623, w1000_624, w1000_625, w1000_626, w1000_627, w1000_628, w1000_629, w1000_630, zk_sI, zk_sJ, zk_sP, zn_sI, zn_sJ, zn_sP, zI_sI, zI_sJ, zI_sP, zJ_sI, zJ_sJ, zJ_sP, zP_sI, zP_sJ, zP_sP, Option.toList_some, Option.toList_none, List.cons_append, List.nil_append, zk_of hP.1, zn_of hP.1, zix, ziN, ne_eq, reduceCtorEq, not_false_eq_true, true_and, and_true, Option.getD_some, Nat.reduceLeDiff, Nat.reduceLT, c_ofNat, zkd0, zp_0_0 hP, zp_0_1 hP, zp_0_2 hP, zp_0_3 hP, zp_0_4 hP, zp_0_5 hP, zp_0_6 hP, zp_0_7 hP, zkd58, zp_58_1 hP, zp_58_2 hP, zp_58_6 hP, zp_58_7 hP, zp_58_10 hP, zp_58_11 hP, zp_58_12 hP, zp_58_14 hP, zp_58_15 hP, zp_58_17 hP, zp_58_18 hP, zp_58_19 hP, zp_58_20 hP, zp_58_21 hP, zp_58_22 hP, zp_58_24 hP, zp_58_26 hP, zp_58_29 hP, zp_58_32 hP, zp_58_33 hP, zp_58_34 hP, zp_58_35 hP, zp_58_36 hP, zp_58_37 hP, zp_58_38 hP, zp_58_39 hP, wL_624 hP, wL_629 hP, a1, c1, v1, a2, c2, v2]
  refine C63 hv hP hC (fun M1 u1 k1 => ?_)
  have hP1 := u1.1
  simp only [w1000_633, w1000_634, w1000_635, w1000_636, w1000_637, w1000_638, w1000_639, w1000_640, w1000_641, w1000_642, w1000_643, w1000_644, zk_sI, zk_sJ, zk_sP, zn_sI, zn_sJ, zn_sP, zI_sI, zI_sJ, zI_sP, zJ_sI, zJ_sJ, zJ_sP, zP_sI, zP_sJ, zP_sP, Option.toList_some, Option.toList_none, List.cons_append, List.nil_append, zk_of hP1.1, zn_of hP1.1, zix, ziN, ne_eq, reduceCtorEq, not_false_eq_true, true_and, and_true, Option.getD_some, Nat.reduceLeDiff, Nat.reduceLT, c_ofNat, zkd0, zp_0_0 hP1, zp_0_1 hP1, zp_0_2 hP1, zp_0_3 hP1, zp_0_4 hP1, zp_0_5 hP1, zp_0_6 hP1, zp_0_7 hP1, zkd58, zp_58_1 hP1, zp_58_2 hP1, zp_58_6 hP1, zp_58_7 hP1, zp_58_10 hP1, zp_58_11 hP1, zp_58_12 hP1, zp_58_14 hP1, zp_58_15 hP1, zp_58_17 hP1, zp_58_18 hP1, zp_58_19 hP1, zp_58_20 hP1, zp_58_21 hP1, zp_58_22 hP1, zp_58_24 hP1, zp_58_26 hP1, zp_58_29 hP1, zp_58_32 hP1, zp_58_33 hP1, zp_58_34 hP1, zp_58_35 hP1, zp_58_36 hP1, zp_58_37 hP1, zp_58_38 hP1, zp_58_39 hP1, wL_638 hP1, wL_643 hP1, a1, c1, v1, a2, c2, v2]
  refine M139 hv hP1 (zKM_up hM u1) (fun M2 d2 m2 => ?_)
  have fin := nxt _ M2 ⟨hv, zPk_F hP1 d2, zKC_dn k1 d2, m2⟩
  simp only [w1000_647, w1000_1243, w1000_1246, zk_sI, zk_sJ, zk_sP, zn_sI, zn_sJ, zn_sP, zI_sI, zI_sJ, zI_sP, zJ_sI, zJ_sJ, zJ_sP, zP_sI, zP_sJ, zP_sP, Option.toList_some, Option.toList_none, List.cons_append, List.nil_append, a7, lc_eq, true_implies, not_true_eq_false, false_implies, and_true]
  exact fin
theorem law_14 (hR : zR q M) (hi : i + 7 ≤ X.1) (hx : X.1 < 2 ^ 31) (nxt : ∀ q' M', zR q' M' → zW X 1000 18 [.val (.ref 1000002), .val (.ref 0), .val (.ref 58), .val (.int (nI (i + 7)))] [] M' Q) : zW X 1000 652 [.val (.ref 1000002), .val (.ref 0), .val (.ref 58), .val (.int (nI i))] [] M Q := by
  obtain ⟨hv, hP, hC, hM⟩ := hR
  have a1 : nI i + 1 = nI (i + 1) := nI_add i 1
  have c1 := n_cl (show i + 1 < 2 ^ 31 by omega)
  have v1 := n_in (show i + 1 < X.1 by omega) hx
  have a7 : nI i + 7 = nI (i + 7) := nI_add i 7
  simp only [w1000_652, w1000_653, w1000_654, w1000_655, w1000_656, w1000_657, w1000_658, zk_sI, zk_sJ, zk_sP, zn_sI, zn_sJ, zn_sP, zI_sI, zI_sJ, zI_sP, zJ_sI, zJ_sJ, zJ_sP, zP_sI, zP_sJ, zP_sP, Option.toList_some, Option.toList_none, List.cons_append, List.nil_append, zk_of hP.1, zn_of hP.1, zix, ziN, ne_eq, reduceCtorEq, not_false_eq_true, true_and, and_true, Option.getD_some, Nat.reduceLeDiff, Nat.reduceLT, c_ofNat, zkd0, zp_0_0 hP, zp_0_1 hP, zp_0_2 hP, zp_0_3 hP, zp_0_4 hP, zp_0_5 hP, zp_0_6 hP, zp_0_7 hP, zkd58, zp_58_1 hP, zp_58_2 hP, zp_58_6 hP, zp_58_7 hP, zp_58_10 hP, zp_58_11 hP, zp_58_12 hP, zp_58_14 hP, zp_58_15 hP, zp_58_17 hP, zp_58_18 hP, zp_58_19 hP, zp_58_20 hP, zp_58_21 hP, zp_58_22 hP, zp_58_24 hP, zp_58_26 hP, zp_58_29 hP, zp_58_32 hP, zp_58_33 hP, zp_58_34 hP, zp_58_35 hP, zp_58_36 hP, zp_58_37 hP, zp_58_38 hP, zp_58_39 hP, wL_657 hP, a1, c1, v1]
  refine C64 hv hP hC (fun M1 u1 k1 => ?_)
  have hP1 := u1.1
  simp only [w1000_661, w1000_662, w1000_663, w1000_664, w1000_665, w1000_666, w1000_667, zk_sI, zk_sJ, zk_sP, zn_sI, zn_sJ, zn_sP, zI_sI, zI_sJ, zI_sP, zJ_sI, zJ_sJ, zJ_sP, zP_sI, zP_sJ, zP_sP, Option.toList_some, Option.toList_none, List.cons_append, List.nil_append, zk_of hP1.1, zn_of hP1.1, zix, ziN, ne_eq, reduceCtorEq, not_false_eq_true, true_and, and_true, Option.getD_some, Nat.reduceLeDiff, Nat.reduceLT, c_ofNat, zkd0, zp_0_0 hP1, zp_0_1 hP1, zp_0_2 hP1, zp_0_3 hP1, zp_0_4 hP1, zp_0_5 hP1, zp_0_6 hP1, zp_0_7 hP1, zkd58, zp_58_1 hP1, zp_58_2 hP1, zp_58_6 hP1, zp_58_7 hP1, zp_58_10 hP1, zp_58_11 hP1, zp_58_12 hP1, zp_58_14 hP1, zp_58_15 hP1, zp_58_17 hP1, zp_58_18 hP1, zp_58_19 hP1, zp_58_20 hP1, zp_58_21 hP1, zp_58_22 hP1, zp_58_24 hP1, zp_58_26 hP1, zp_58_29 hP1, zp_58_32 hP1, zp_58_33 hP1, zp_58_34 hP1, zp_58_35 hP1, zp_58_36 hP1, zp_58_37 hP1, zp_58_38 hP1, zp_58_39 hP1, wL_666 hP1, a1, c1, v1]
  refine M140 hv hP1 (zKM_up hM u1) (fun M2 d2 m2 => ?_)
  have fin := nxt _ M2 ⟨hv, zPk_F hP1 d2, zKC_dn k1 d2, m2⟩
  simp only [w1000_670, w1000_1243, w1000_1246, zk_sI, zk_sJ, zk_sP, zn_sI, zn_sJ, zn_sP, zI_sI, zI_sJ, zI_sP, zJ_sI, zJ_sJ, zJ_sP, zP_sI, zP_sJ, zP_sP, Option.toList_some, Option.toList_none, List.cons_append, List.nil_append, a7, lc_eq, true_implies, not_true_eq_false, false_implies, and_true]
  exact fin
theorem law_15 (hR : zR q M) (hi : i + 7 ≤ X.1) (hx : X.1 < 2 ^ 31) (nxt : ∀ q' M', zR q' M' → zW X 1000 18 [.val (.ref 1000002), .val (.ref 0), .val (.ref 58), .val (.int (nI (i + 7)))] [] M' Q) : zW X 1000 675 [.val (.ref 1000002), .val (.ref 0), .val (.ref 58), .val (.int (nI i))] [] M Q := by
  obtain ⟨hv, hP, hC, hM⟩ := hR
  have a1 : nI i + 1 = nI (i + 1) := nI_add i 1
  have c1 := n_cl (show i + 1 < 2 ^ 31 by omega)
  have v1 := n_in (show i + 1 < X.1 by omega) hx
  have a7 : nI i + 7 = nI (i + 7) := nI_add i 7
  simp only [w1000_675, w1000_676, w1000_677, w1000_678, w1000_679, w1000_680, w1000_681, zk_sI, zk_sJ, zk_sP, zn_sI, zn_sJ, zn_sP, zI_sI, zI_sJ, zI_sP, zJ_sI, zJ_sJ, zJ_sP, zP_sI, zP_sJ, zP_sP, Option.toList_some, Option.toList_none, List.cons_append, List.nil_append, zk_of hP.1, zn_of hP.1, zix, ziN, ne_eq, reduceCtorEq, not_false_eq_true, true_and, and_true, Option.getD_some, Nat.reduceLeDiff, Nat.reduceLT, c_ofNat, zkd0, zp_0_0 hP, zp_0_1 hP, zp_0_2 hP, zp_0_3 hP, zp_0_4 hP, zp_0_5 hP, zp_0_6 hP, zp_0_7 hP, zkd58, zp_58_1 hP, zp_58_2 hP, zp_58_6 hP, zp_58_7 hP, zp_58_10 hP, zp_58_11 hP, zp_58_12 hP, zp_58_14 hP, zp_58_15 hP, zp_58_17 hP, zp_58_18 hP, zp_58_19 hP, zp_58_20 hP, zp_58_21 hP, zp_58_22 hP, zp_58_24 hP, zp_58_26 hP, zp_58_29 hP, zp_58_32 hP, zp_58_33 hP, zp_58_34 hP, zp_58_35 hP, zp_58_36 hP, zp_58_37 hP, zp_58_38 hP, zp_58_39 hP, wL_680 hP, a1, c1, v1]
  refine C65 hv hP hC (fun M1 u1 k1 => ?_)
  have hP1 := u1.1
  simp only [w1000_684, w1000_685, w1000_686, w1000_687, w1000_688, w1000_689, w1000_690, zk_sI, zk_sJ, zk_sP, zn_sI, zn_sJ, zn_sP, zI_sI, zI_sJ, zI_sP, zJ_sI, zJ_sJ, zJ_sP, zP_sI, zP_sJ, zP_sP, Option.toList_some, Option.toList_none, List.cons_append, List.nil_append, zk_of hP1.1, zn_of hP1.1, zix, ziN, ne_eq, reduceCtorEq, not_false_eq_true, true_and, and_true, Option.getD_some, Nat.reduceLeDiff, Nat.reduceLT, c_ofNat, zkd0, zp_0_0 hP1, zp_0_1 hP1, zp_0_2 hP1, zp_0_3 hP1, zp_0_4 hP1, zp_0_5 hP1, zp_0_6 hP1, zp_0_7 hP1, zkd58, zp_58_1 hP1, zp_58_2 hP1, zp_58_6 hP1, zp_58_7 hP1, zp_58_10 hP1, zp_58_11 hP1, zp_58_12 hP1, zp_58_14 hP1, zp_58_15 hP1, zp_58_17 hP1, zp_58_18 hP1, zp_58_19 hP1, zp_58_20 hP1, zp_58_21 hP1, zp_58_22 hP1, zp_58_24 hP1, zp_58_26 hP1, zp_58_29 hP1, zp_58_32 hP1, zp_58_33 hP1, zp_58_34 hP1, zp_58_35 hP1, zp_58_36 hP1, zp_58_37 hP1, zp_58_38 hP1, zp_58_39 hP1, wL_689 hP1, a1, c1, v1]
  refine M141 hv hP1 (zKM_up hM u1) (fun M2 d2 m2 => ?_)
  have fin := nxt _ M2 ⟨hv, zPk_F hP1 d2, zKC_dn k1 d2, m2⟩
  simp only [w1000_693, w1000_1243, w1000_1246, zk_sI, zk_sJ, zk_sP, zn_sI, zn_sJ, zn_sP, zI_sI, zI_sJ, zI_sP, zJ_sI, zJ_sJ, zJ_sP, zP_sI, zP_sJ, zP_sP, Option.toList_some, Option.toList_none, List.cons_append, List.nil_append, a7, lc_eq, true_implies, not_true_eq_false, false_implies, and_true]
  exact fin
theorem law_16 (hR : zR q M) (hi : i + 7 ≤ X.1) (hx : X.1 < 2 ^ 31) (nxt : ∀ q' M', zR q' M' → zW X 1000 18 [.val (.ref 1000002), .val (.ref 0), .val (.ref 58), .val (.int (nI (i + 7)))] [] M' Q) : zW X 1000 698 [.val (.ref 1000002), .val (.ref 0), .val (.ref 58), .val (.int (nI i))] [] M Q := by
  obtain ⟨hv, hP, hC, hM⟩ := hR
  have a1 : nI i + 1 = nI (i + 1) := nI_add i 1
  have c1 := n_cl (show i + 1 < 2 ^ 31 by omega)
  have v1 := n_in (show i + 1 < X.1 by omega) hx
  have a2 : nI i + 2 = nI (i + 2) := nI_add i 2
  have c2 := n_cl (show i + 2 < 2 ^ 31 by omega)
  have v2 := n_in (show i + 2 < X.1 by omega) hx
  have a3 : nI i + 3 = nI (i + 3) := nI_add i 3
  have c3 := n_cl (show i + 3 < 2 ^ 31 by omega)
  have v3 := n_in (show i + 3 < X.1 by omega) hx
  have a7 : nI i + 7 = nI (i + 7) := nI_add i 7
  simp only [w1000_698, w1000_699, w1000_700, w1000_701, w1000_702, w1000_703, w1000_704, w1000_705, w1000_706, w1000_707, w1000_708, w1000_709, w1000_710, w1000_711, w1000_712, w1000_713, w1000_714, zk_sI, zk_sJ, zk_sP, zn_sI, zn_sJ, zn_sP, zI_sI, zI_sJ, zI_sP, zJ_sI, zJ_sJ, zJ_sP, zP_sI, zP_sJ, zP_sP, Option.toList_some, Option.toList_none, List.cons_append, List.nil_append, zk_of hP.1, zn_of hP.1, zix, ziN, ne_eq, reduceCtorEq, not_false_eq_true, true_and, and_true, Option.getD_some, Nat.reduceLeDiff, Nat.reduceLT, c_ofNat, zkd0, zp_0_0 hP, zp_0_1 hP, zp_0_2 hP, zp_0_3 hP, zp_0_4 hP, zp_0_5 hP, zp_0_6 hP, zp_0_7 hP, zkd58, zp_58_1 hP, zp_58_2 hP, zp_58_6 hP, zp_58_7 hP, zp_58_10 hP, zp_58_11 hP, zp_58_12 hP, zp_58_14 hP, zp_58_15 hP, zp_58_17 hP, zp_58_18 hP, zp_58_19 hP, zp_58_20 hP, zp_58_21 hP, zp_58_22 hP, zp_58_24 hP, zp_58_26 hP, zp_58_29 hP, zp_58_32 hP, zp_58_33 hP, zp_58_34 hP, zp_58_35 hP, zp_58_36 hP, zp_58_37 hP, zp_58_38 hP, zp_58_39 hP, wL_703 hP, wL_708 hP, wL_713 hP, a1, c1, v1, a2, c2, v2, a3, c3, v3]
  refine C66 hv hP hC (fun M1 u1 k1 => ?_)
  have hP1 := u1.1
  simp only [w1000_717, w1000_718, w1000_719, w1000_720, w1000_721, w1000_722, w1000_723, w1000_724, w1000_725, w1000_726, w1000_727, w1000_728, w1000_729, w1000_730, w1000_731, w1000_732, w1000_733, zk_sI, zk_sJ, zk_sP, zn_sI, zn_sJ, zn_sP, zI_sI, zI_sJ, zI_sP, zJ_sI, zJ_sJ, zJ_sP, zP_sI, zP_sJ, zP_sP, Option.toList_some, Option.toList_none, List.cons_append, List.nil_append, zk_of hP1.1, zn_of hP1.1, zix, ziN, ne_eq, reduceCtorEq, not_false_eq_true, true_and, and_true, Option.getD_some, Nat.reduceLeDiff, Nat.reduceLT, c_ofNat, zkd0, zp_0_0 hP1, zp_0_1 hP1, zp_0_2 hP1, zp_0_3 hP1, zp_0_4 hP1, zp_0_5 hP1, zp_0_6 hP1, zp_0_7 hP1, zkd58, zp_58_1 hP1, zp_58_2 hP1, zp_58_6 hP1, zp_58_7 hP1, zp_58_10 hP1, zp_58_11 hP1, zp_58_12 hP1, zp_58_14 hP1, zp_58_15 hP1, zp_58_17 hP1, zp_58_18 hP1, zp_58_19 hP1, zp_58_20 hP1, zp_58_21 hP1, zp_58_22 hP1, zp_58_24 hP1, zp_58_26 hP1, zp_58_29 hP1, zp_58_32 hP1, zp_58_33 hP1, zp_58_34 hP1, zp_58_35 hP1, zp_58_36 hP1, zp_58_37 hP1, zp_58_38 hP1, zp_58_39 hP1, wL_722 hP1, wL_727 hP1, wL_732 hP1, a1, c1, v1, a2, c2, v2, a3, c3, v3]
  refine M142 hv hP1 (zKM_up hM u1) (fun M2 d2 m2 => ?_)
  have fin := nxt _ M2 ⟨vFight _ _ _ hv, zPk_F hP1 d2, zKC_dn k1 d2, m2⟩
  simp only [w1000_736, w1000_1243, w1000_1246, zk_sI, zk_sJ, zk_sP, zn_sI, zn_sJ, zn_sP, zI_sI, zI_sJ, zI_sP, zJ_sI, zJ_sJ, zJ_sP, zP_sI, zP_sJ, zP_sP, Option.toList_some, Option.toList_none, List.cons_append, List.nil_append, a7, lc_eq, true_implies, not_true_eq_false, false_implies, and_true]
  exact fin
theorem law_17 (hR : zR q M) (hi : i + 7 ≤ X.1) (hx : X.1 < 2 ^ 31) (nxt : ∀ q' M', zR q' M' → zW X 1000 18 [.val (.ref 1000002), .val (.ref 0), .val (.ref 58), .val (.int (nI (i + 7)))] [] M' Q) : zW X 1000 741 [.val (.ref 1000002), .val (.ref 0), .val (.ref 58), .val (.int (nI i))] [] M Q := by
  obtain ⟨hv, hP, hC, hM⟩ := hR
  have a7 : nI i + 7 = nI (i + 7) := nI_add i 7
  simp only [w1000_741, w1000_742, zk_sI, zk_sJ, zk_sP, zn_sI, zn_sJ, zn_sP, zI_sI, zI_sJ, zI_sP, zJ_sI, zJ_sJ, zJ_sP, zP_sI, zP_sJ, zP_sP, Option.toList_some, Option.toList_none, List.cons_append, List.nil_append, zk_of hP.1, zn_of hP.1, zix, ziN, ne_eq, reduceCtorEq, not_false_eq_true, true_and, and_true, Option.getD_some, Nat.reduceLeDiff, Nat.reduceLT, c_ofNat, zkd0, zp_0_0 hP, zp_0_1 hP, zp_0_2 hP, zp_0_3 hP, zp_0_4 hP, zp_0_5 hP, zp_0_6 hP, zp_0_7 hP, zkd58, zp_58_1 hP, zp_58_2 hP, zp_58_6 hP, zp_58_7 hP, zp_58_10 hP, zp_58_11 hP, zp_58_12 hP, zp_58_14 hP, zp_58_15 hP, zp_58_17 hP, zp_58_18 hP, zp_58_19 hP, zp_58_20 hP, zp_58_21 hP, zp_58_22 hP, zp_58_24 hP, zp_58_26 hP, zp_58_29 hP, zp_58_32 hP, zp_58_33 hP, zp_58_34 hP, zp_58_35 hP, zp_58_36 hP, zp_58_37 hP, zp_58_38 hP, zp_58_39 hP]
  refine C67 hP hC (fun M1 u1 k1 => ?_)
  have hP1 := u1.1
  simp only [w1000_745, w1000_746, zk_sI, zk_sJ, zk_sP, zn_sI, zn_sJ, zn_sP, zI_sI, zI_sJ, zI_sP, zJ_sI, zJ_sJ, zJ_sP, zP_sI, zP_sJ, zP_sP, Option.toList_some, Option.toList_none, List.cons_append, List.nil_append, zk_of hP1.1, zn_of hP1.1, zix, ziN, ne_eq, reduceCtorEq, not_false_eq_true, true_and, and_true, Option.getD_some, Nat.reduceLeDiff, Nat.reduceLT, c_ofNat, zkd0, zp_0_0 hP1, zp_0_1 hP1, zp_0_2 hP1, zp_0_3 hP1, zp_0_4 hP1, zp_0_5 hP1, zp_0_6 hP1, zp_0_7 hP1, zkd58, zp_58_1 hP1, zp_58_2 hP1, zp_58_6 hP1, zp_58_7 hP1, zp_58_10 hP1, zp_58_11 hP1, zp_58_12 hP1, zp_58_14 hP1, zp_58_15 hP1, zp_58_17 hP1, zp_58_18 hP1, zp_58_19 hP1, zp_58_20 hP1, zp_58_21 hP1, zp_58_22 hP1, zp_58_24 hP1, zp_58_26 hP1, zp_58_29 hP1, zp_58_32 hP1, zp_58_33 hP1, zp_58_34 hP1, zp_58_35 hP1, zp_58_36 hP1, zp_58_37 hP1, zp_58_38 hP1, zp_58_39 hP1]
  refine M143 hP1 (zKM_up hM u1) (fun M2 d2 m2 => ?_)
  have fin := nxt _ M2 ⟨vRest hv, zPk_F hP1 d2, zKC_dn k1 d2, m2⟩
  simp only [w1000_749, w1000_1243, w1000_1246, zk_sI, zk_sJ, zk_sP, zn_sI, zn_sJ, zn_sP, zI_sI, zI_sJ, zI_sP, zJ_sI, zJ_sJ, zJ_sP, zP_sI, zP_sJ, zP_sP, Option.toList_some, Option.toList_none, List.cons_append, List.nil_append, a7, lc_eq, true_implies, not_true_eq_false, false_implies, and_true]
  exact fin
theorem law_18 (hR : zR q M) (hi : i + 7 ≤ X.1) (hx : X.1 < 2 ^ 31) (nxt : ∀ q' M', zR q' M' → zW X 1000 18 [.val (.ref 1000002), .val (.ref 0), .val (.ref 58), .val (.int (nI (i + 7)))] [] M' Q) : zW X 1000 754 [.val (.ref 1000002), .val (.ref 0), .val (.ref 58), .val (.int (nI i))] [] M Q := by
  obtain ⟨hv, hP, hC, hM⟩ := hR
  have a1 : nI i + 1 = nI (i + 1) := nI_add i 1
  have c1 := n_cl (show i + 1 < 2 ^ 31 by omega)
  have v1 := n_in (show i + 1 < X.1 by omega) hx
  have a2 : nI i + 2 = nI (i + 2) := nI_add i 2
  have c2 := n_cl (show i + 2 < 2 ^ 31 by omega)
  have v2 := n_in (show i + 2 < X.1 by omega) hx
  have a7 : nI i + 7 = nI (i + 7) := nI_add i 7
  simp only [w1000_754, w1000_755, w1000_756, w1000_757, w1000_758, w1000_759, w1000_760, w1000_761, w1000_762, w1000_763, w1000_764, w1000_765, zk_sI, zk_sJ, zk_sP, zn_sI, zn_sJ, zn_sP, zI_sI, zI_sJ, zI_sP, zJ_sI, zJ_sJ, zJ_sP, zP_sI, zP_sJ, zP_sP, Option.toList_some, Option.toList_none, List.cons_append, List.nil_append, zk_of hP.1, zn_of hP.1, zix, ziN, ne_eq, reduceCtorEq, not_false_eq_true, true_and, and_true, Option.getD_some, Nat.reduceLeDiff, Nat.reduceLT, c_ofNat, zkd0, zp_0_0 hP, zp_0_1 hP, zp_0_2 hP, zp_0_3 hP, zp_0_4 hP, zp_0_5 hP, zp_0_6 hP, zp_0_7 hP, zkd58, zp_58_1 hP, zp_58_2 hP, zp_58_6 hP, zp_58_7 hP, zp_58_10 hP, zp_58_11 hP, zp_58_12 hP, zp_58_14 hP, zp_58_15 hP, zp_58_17 hP, zp_58_18 hP, zp_58_19 hP, zp_58_20 hP, zp_58_21 hP, zp_58_22 hP, zp_58_24 hP, zp_58_26 hP, zp_58_29 hP, zp_58_32 hP, zp_58_33 hP, zp_58_34 hP, zp_58_35 hP, zp_58_36 hP, zp_58_37 hP, zp_58_38 hP, zp_58_39 hP, wL_759 hP, wL_764 hP, a1, c1, v1, a2, c2, v2]
  refine C68 hP hC (fun M1 u1 k1 => ?_)
  have hP1 := u1.1
  simp only [w1000_768, w1000_769, w1000_770, w1000_771, w1000_772, w1000_773, w1000_774, w1000_775, w1000_776, w1000_777, w1000_778, w1000_779, zk_sI, zk_sJ, zk_sP, zn_sI, zn_sJ, zn_sP, zI_sI, zI_sJ, zI_sP, zJ_sI, zJ_sJ, zJ_sP, zP_sI, zP_sJ, zP_sP, Option.toList_some, Option.toList_none, List.cons_append, List.nil_append, zk_of hP1.1, zn_of hP1.1, zix, ziN, ne_eq, reduceCtorEq, not_false_eq_true, true_and, and_true, Option.getD_some, Nat.reduceLeDiff, Nat.reduceLT, c_ofNat, zkd0, zp_0_0 hP1, zp_0_1 hP1, zp_0_2 hP1, zp_0_3 hP1, zp_0_4 hP1, zp_0_5 hP1, zp_0_6 hP1, zp_0_7 hP1, zkd58, zp_58_1 hP1, zp_58_2 hP1, zp_58_6 hP1, zp_58_7 hP1, zp_58_10 hP1, zp_58_11 hP1, zp_58_12 hP1, zp_58_14 hP1, zp_58_15 hP1, zp_58_17 hP1, zp_58_18 hP1, zp_58_19 hP1, zp_58_20 hP1, zp_58_21 hP1, zp_58_22 hP1, zp_58_24 hP1, zp_58_26 hP1, zp_58_29 hP1, zp_58_32 hP1, zp_58_33 hP1, zp_58_34 hP1, zp_58_35 hP1, zp_58_36 hP1, zp_58_37 hP1, zp_58_38 hP1, zp_58_39 hP1, wL_773 hP1, wL_778 hP1, a1, c1, v1, a2, c2, v2]
  refine M144 hP1 (zKM_up hM u1) (fun M2 d2 m2 => ?_)
  have fin := nxt _ M2 ⟨vPurse _ _ hv, zPk_F hP1 d2, zKC_dn k1 d2, m2⟩
  simp only [w1000_782, w1000_1243, w1000_1246, zk_sI, zk_sJ, zk_sP, zn_sI, zn_sJ, zn_sP, zI_sI, zI_sJ, zI_sP, zJ_sI, zJ_sJ, zJ_sP, zP_sI, zP_sJ, zP_sP, Option.toList_some, Option.toList_none, List.cons_append, List.nil_append, a7, lc_eq, true_implies, not_true_eq_false, false_implies, and_true]
  exact fin
theorem law_19 (hR : zR q M) (hi : i + 7 ≤ X.1) (hx : X.1 < 2 ^ 31) (nxt : ∀ q' M', zR q' M' → zW X 1000 18 [.val (.ref 1000002), .val (.ref 0), .val (.ref 58), .val (.int (nI (i + 7)))] [] M' Q) : zW X 1000 787 [.val (.ref 1000002), .val (.ref 0), .val (.ref 58), .val (.int (nI i))] [] M Q := by
  obtain ⟨hv, hP, hC, hM⟩ := hR
  have a7 : nI i + 7 = nI (i + 7) := nI_add i 7
  simp only [w1000_787, w1000_788, zk_sI, zk_sJ, zk_sP, zn_sI, zn_sJ, zn_sP, zI_sI, zI_sJ, zI_sP, zJ_sI, zJ_sJ, zJ_sP, zP_sI, zP_sJ, zP_sP, Option.toList_some, Option.toList_none, List.cons_append, List.nil_append, zk_of hP.1, zn_of hP.1, zix, ziN, ne_eq, reduceCtorEq, not_false_eq_true, true_and, and_true, Option.getD_some, Nat.reduceLeDiff, Nat.reduceLT, c_ofNat, zkd0, zp_0_0 hP, zp_0_1 hP, zp_0_2 hP, zp_0_3 hP, zp_0_4 hP, zp_0_5 hP, zp_0_6 hP, zp_0_7 hP, zkd58, zp_58_1 hP, zp_58_2 hP, zp_58_6 hP, zp_58_7 hP, zp_58_10 hP, zp_58_11 hP, zp_58_12 hP, zp_58_14 hP, zp_58_15 hP, zp_58_17 hP, zp_58_18 hP, zp_58_19 hP, zp_58_20 hP, zp_58_21 hP, zp_58_22 hP, zp_58_24 hP, zp_58_26 hP, zp_58_29 hP, zp_58_32 hP, zp_58_33 hP, zp_58_34 hP, zp_58_35 hP, zp_58_36 hP, zp_58_37 hP, zp_58_38 hP, zp_58_39 hP]
  refine C69 hv hP hC (fun M1 u1 k1 => ?_)
  have hP1 := u1.1
  simp only [w1000_791, w1000_792, zk_sI, zk_sJ, zk_sP, zn_sI, zn_sJ, zn_sP, zI_sI, zI_sJ, zI_sP, zJ_sI, zJ_sJ, zJ_sP, zP_sI, zP_sJ, zP_sP, Option.toList_some, Option.toList_none, List.cons_append, List.nil_append, zk_of hP1.1, zn_of hP1.1, zix, ziN, ne_eq, reduceCtorEq, not_false_eq_true, true_and, and_true, Option.getD_some, Nat.reduceLeDiff, Nat.reduceLT, c_ofNat, zkd0, zp_0_0 hP1, zp_0_1 hP1, zp_0_2 hP1, zp_0_3 hP1, zp_0_4 hP1, zp_0_5 hP1, zp_0_6 hP1, zp_0_7 hP1, zkd58, zp_58_1 hP1, zp_58_2 hP1, zp_58_6 hP1, zp_58_7 hP1, zp_58_10 hP1, zp_58_11 hP1, zp_58_12 hP1, zp_58_14 hP1, zp_58_15 hP1, zp_58_17 hP1, zp_58_18 hP1, zp_58_19 hP1, zp_58_20 hP1, zp_58_21 hP1, zp_58_22 hP1, zp_58_24 hP1, zp_58_26 hP1, zp_58_29 hP1, zp_58_32 hP1, zp_58_33 hP1, zp_58_34 hP1, zp_58_35 hP1, zp_58_36 hP1, zp_58_37 hP1, zp_58_38 hP1, zp_58_39 hP1]
  refine M147 hv hP1 (zKM_up hM u1) (fun M2 d2 m2 => ?_)
  have fin := nxt _ M2 ⟨hv, zPk_F hP1 d2, zKC_dn k1 d2, m2⟩
  simp only [w1000_795, w1000_1243, w1000_1246, zk_sI, zk_sJ, zk_sP, zn_sI, zn_sJ, zn_sP, zI_sI, zI_sJ, zI_sP, zJ_sI, zJ_sJ, zJ_sP, zP_sI, zP_sJ, zP_sP, Option.toList_some, Option.toList_none, List.cons_append, List.nil_append, a7, lc_eq, true_implies, not_true_eq_false, false_implies, and_true]
  exact fin
theorem law_20 (hR : zR q M) (hi : i + 7 ≤ X.1) (hx : X.1 < 2 ^ 31) (nxt : ∀ q' M', zR q' M' → zW X 1000 18 [.val (.ref 1000002), .val (.ref 0), .val (.ref 58), .val (.int (nI (i + 7)))] [] M' Q) : zW X 1000 800 [.val (.ref 1000002), .val (.ref 0), .val (.ref 58), .val (.int (nI i))] [] M Q := by
  obtain ⟨hv, hP, hC, hM⟩ := hR
  have a7 : nI i + 7 = nI (i + 7) := nI_add i 7
  simp only [w1000_800, w1000_801, zk_sI, zk_sJ, zk_sP, zn_sI, zn_sJ, zn_sP, zI_sI, zI_sJ, zI_sP, zJ_sI, zJ_sJ, zJ_sP, zP_sI, zP_sJ, zP_sP, Option.toList_some, Option.toList_none, List.cons_append, List.nil_append, zk_of hP.1, zn_of hP.1, zix, ziN, ne_eq, reduceCtorEq, not_false_eq_true, true_and, and_true, Option.getD_some, Nat.reduceLeDiff, Nat.reduceLT, c_ofNat, zkd0, zp_0_0 hP, zp_0_1 hP, zp_0_2 hP, zp_0_3 hP, zp_0_4 hP, zp_0_5 hP, zp_0_6 hP, zp_0_7 hP, zkd58, zp_58_1 hP, zp_58_2 hP, zp_58_6 hP, zp_58_7 hP, zp_58_10 hP, zp_58_11 hP, zp_58_12 hP, zp_58_14 hP, zp_58_15 hP, zp_58_17 hP, zp_58_18 hP, zp_58_19 hP, zp_58_20 hP, zp_58_21 hP, zp_58_22 hP, zp_58_24 hP, zp_58_26 hP, zp_58_29 hP, zp_58_32 hP, zp_58_33 hP, zp_58_34 hP, zp_58_35 hP, zp_58_36 hP, zp_58_37 hP, zp_58_38 hP, zp_58_39 hP]
  refine C70 hv hP hC (fun M1 u1 k1 => ?_)
  have hP1 := u1.1
  simp only [w1000_804, w1000_805, zk_sI, zk_sJ, zk_sP, zn_sI, zn_sJ, zn_sP, zI_sI, zI_sJ, zI_sP, zJ_sI, zJ_sJ, zJ_sP, zP_sI, zP_sJ, zP_sP, Option.toList_some, Option.toList_none, List.cons_append, List.nil_append, zk_of hP1.1, zn_of hP1.1, zix, ziN, ne_eq, reduceCtorEq, not_false_eq_true, true_and, and_true, Option.getD_some, Nat.reduceLeDiff, Nat.reduceLT, c_ofNat, zkd0, zp_0_0 hP1, zp_0_1 hP1, zp_0_2 hP1, zp_0_3 hP1, zp_0_4 hP1, zp_0_5 hP1, zp_0_6 hP1, zp_0_7 hP1, zkd58, zp_58_1 hP1, zp_58_2 hP1, zp_58_6 hP1, zp_58_7 hP1, zp_58_10 hP1, zp_58_11 hP1, zp_58_12 hP1, zp_58_14 hP1, zp_58_15 hP1, zp_58_17 hP1, zp_58_18 hP1, zp_58_19 hP1, zp_58_20 hP1, zp_58_21 hP1, zp_58_22 hP1, zp_58_24 hP1, zp_58_26 hP1, zp_58_29 hP1, zp_58_32 hP1, zp_58_33 hP1, zp_58_34 hP1, zp_58_35 hP1, zp_58_36 hP1, zp_58_37 hP1, zp_58_38 hP1, zp_58_39 hP1]
  refine M148 hv hP1 (zKM_up hM u1) (fun M2 d2 m2 => ?_)
  have fin := nxt _ M2 ⟨hv, zPk_F hP1 d2, zKC_dn k1 d2, m2⟩
  simp only [w1000_808, w1000_1243, w1000_1246, zk_sI, zk_sJ, zk_sP, zn_sI, zn_sJ, zn_sP, zI_sI, zI_sJ, zI_sP, zJ_sI, zJ_sJ, zJ_sP, zP_sI, zP_sJ, zP_sP, Option.toList_some, Option.toList_none, List.cons_append, List.nil_append, a7, lc_eq, true_implies, not_true_eq_false, false_implies, and_true]
  exact fin
theorem law_21 (hR : zR q M) (hi : i + 7 ≤ X.1) (hx : X.1 < 2 ^ 31) (nxt : ∀ q' M', zR q' M' → zW X 1000 18 [.val (.ref 1000002), .val (.ref 0), .val (.ref 58), .val (.int (nI (i + 7)))] [] M' Q) : zW X 1000 813 [.val (.ref 1000002), .val (.ref 0), .val (.ref 58), .val (.int (nI i))] [] M Q := by
  obtain ⟨hv, hP, hC, hM⟩ := hR
  have a1 : nI i + 1 = nI (i + 1) := nI_add i 1
  have c1 := n_cl (show i + 1 < 2 ^ 31 by omega)
  have v1 := n_in (show i + 1 < X.1 by omega) hx
  have a2 : nI i + 2 = nI (i + 2) := nI_add i 2
  have c2 := n_cl (show i + 2 < 2 ^ 31 by omega)
  have v2 := n_in (show i + 2 < X.1 by omega) hx
  have a7 : nI i + 7 = nI (i + 7) := nI_add i 7
  simp only [w1000_813, w1000_814, w1000_815, w1000_816, w1000_817, w1000_818, w1000_819, w1000_820, w1000_821, w1000_822, w1000_823, w1000_824, zk_sI, zk_sJ, zk_sP, zn_sI, zn_sJ, zn_sP, zI_sI, zI_sJ, zI_sP, zJ_sI, zJ_sJ, zJ_sP, zP_sI, zP_sJ, zP_sP, Option.toList_some, Option.toList_none, List.cons_append, List.nil_append, zk_of hP.1, zn_of hP.1, zix, ziN, ne_eq, reduceCtorEq, not_false_eq_true, true_and, and_true, Option.getD_some, Nat.reduceLeDiff, Nat.reduceLT, c_ofNat, zkd0, zp_0_0 hP, zp_0_1 hP, zp_0_2 hP, zp_0_3 hP, zp_0_4 hP, zp_0_5 hP, zp_0_6 hP, zp_0_7 hP, zkd58, zp_58_1 hP, zp_58_2 hP, zp_58_6 hP, zp_58_7 hP, zp_58_10 hP, zp_58_11 hP, zp_58_12 hP, zp_58_14 hP, zp_58_15 hP, zp_58_17 hP, zp_58_18 hP, zp_58_19 hP, zp_58_20 hP, zp_58_21 hP, zp_58_22 hP, zp_58_24 hP, zp_58_26 hP, zp_58_29 hP, zp_58_32 hP, zp_58_33 hP, zp_58_34 hP, zp_58_35 hP, zp_58_36 hP, zp_58_37 hP, zp_58_38 hP, zp_58_39 hP, wL_818 hP, wL_823 hP, a1, c1, v1, a2, c2, v2]
  refine C71 hv hP hC (fun M1 u1 k1 => ?_)
  have hP1 := u1.1
  simp only [w1000_827, w1000_828, w1000_829, w1000_830, w1000_831, w1000_832, w1000_833, w1000_834, w1000_835, w1000_836, w1000_837, w1000_838, zk_sI, zk_sJ, zk_sP, zn_sI, zn_sJ, zn_sP, zI_sI, zI_sJ, zI_sP, zJ_sI, zJ_sJ, zJ_sP, zP_sI, zP_sJ, zP_sP, Option.toList_some, Option.toList_none, List.cons_append, List.nil_append, zk_of hP1.1, zn_of hP1.1, zix, ziN, ne_eq, reduceCtorEq, not_false_eq_true, true_and, and_true, Option.getD_some, Nat.reduceLeDiff, Nat.reduceLT, c_ofNat, zkd0, zp_0_0 hP1, zp_0_1 hP1, zp_0_2 hP1, zp_0_3 hP1, zp_0_4 hP1, zp_0_5 hP1, zp_0_6 hP1, zp_0_7 hP1, zkd58, zp_58_1 hP1, zp_58_2 hP1, zp_58_6 hP1, zp_58_7 hP1, zp_58_10 hP1, zp_58_11 hP1, zp_58_12 hP1, zp_58_14 hP1, zp_58_15 hP1, zp_58_17 hP1, zp_58_18 hP1, zp_58_19 hP1, zp_58_20 hP1, zp_58_21 hP1, zp_58_22 hP1, zp_58_24 hP1, zp_58_26 hP1, zp_58_29 hP1, zp_58_32 hP1, zp_58_33 hP1, zp_58_34 hP1, zp_58_35 hP1, zp_58_36 hP1, zp_58_37 hP1, zp_58_38 hP1, zp_58_39 hP1, wL_832 hP1, wL_837 hP1, a1, c1, v1, a2, c2, v2]
  refine M149 hv hP1 (zKM_up hM u1) (fun M2 d2 m2 => ?_)
  have fin := nxt _ M2 ⟨hv, zPk_F hP1 d2, zKC_dn k1 d2, m2⟩
  simp only [w1000_841, w1000_1243, w1000_1246, zk_sI, zk_sJ, zk_sP, zn_sI, zn_sJ, zn_sP, zI_sI, zI_sJ, zI_sP, zJ_sI, zJ_sJ, zJ_sP, zP_sI, zP_sJ, zP_sP, Option.toList_some, Option.toList_none, List.cons_append, List.nil_append, a7, lc_eq, true_implies, not_true_eq_false, false_implies, and_true]
  exact fin
theorem law_22 (hR : zR q M) (hi : i + 7 ≤ X.1) (hx : X.1 < 2 ^ 31) (nxt : ∀ q' M', zR q' M' → zW X 1000 18 [.val (.ref 1000002), .val (.ref 0), .val (.ref 58), .val (.int (nI (i + 7)))] [] M' Q) : zW X 1000 846 [.val (.ref 1000002), .val (.ref 0), .val (.ref 58), .val (.int (nI i))] [] M Q := by
  obtain ⟨hv, hP, hC, hM⟩ := hR
  have a1 : nI i + 1 = nI (i + 1) := nI_add i 1
  have c1 := n_cl (show i + 1 < 2 ^ 31 by omega)
  have v1 := n_in (show i + 1 < X.1 by omega) hx
  have a2 : nI i + 2 = nI (i + 2) := nI_add i 2
  have c2 := n_cl (show i + 2 < 2 ^ 31 by omega)
  have v2 := n_in (show i + 2 < X.1 by omega) hx
  have a7 : nI i + 7 = nI (i + 7) := nI_add i 7
  simp only [w1000_846, w1000_847, w1000_848, w1000_849, w1000_850, w1000_851, w1000_852, w1000_853, w1000_854, w1000_855, w1000_856, w1000_857, zk_sI, zk_sJ, zk_sP, zn_sI, zn_sJ, zn_sP, zI_sI, zI_sJ, zI_sP, zJ_sI, zJ_sJ, zJ_sP, zP_sI, zP_sJ, zP_sP, Option.toList_some, Option.toList_none, List.cons_append, List.nil_append, zk_of hP.1, zn_of hP.1, zix, ziN, ne_eq, reduceCtorEq, not_false_eq_true, true_and, and_true, Option.getD_some, Nat.reduceLeDiff, Nat.reduceLT, c_ofNat, zkd0, zp_0_0 hP, zp_0_1 hP, zp_0_2 hP, zp_0_3 hP, zp_0_4 hP, zp_0_5 hP, zp_0_6 hP, zp_0_7 hP, zkd58, zp_58_1 hP, zp_58_2 hP, zp_58_6 hP, zp_58_7 hP, zp_58_10 hP, zp_58_11 hP, zp_58_12 hP, zp_58_14 hP, zp_58_15 hP, zp_58_17 hP, zp_58_18 hP, zp_58_19 hP, zp_58_20 hP, zp_58_21 hP, zp_58_22 hP, zp_58_24 hP, zp_58_26 hP, zp_58_29 hP, zp_58_32 hP, zp_58_33 hP, zp_58_34 hP, zp_58_35 hP, zp_58_36 hP, zp_58_37 hP, zp_58_38 hP, zp_58_39 hP, wL_851 hP, wL_856 hP, a1, c1, v1, a2, c2, v2]
  refine C72 hv hP hC (fun M1 u1 k1 => ?_)
  have hP1 := u1.1
  simp only [w1000_860, w1000_861, w1000_862, w1000_863, w1000_864, w1000_865, w1000_866, w1000_867, w1000_868, w1000_869, w1000_870, w1000_871, zk_sI, zk_sJ, zk_sP, zn_sI, zn_sJ, zn_sP, zI_sI, zI_sJ, zI_sP, zJ_sI, zJ_sJ, zJ_sP, zP_sI, zP_sJ, zP_sP, Option.toList_some, Option.toList_none, List.cons_append, List.nil_append, zk_of hP1.1, zn_of hP1.1, zix, ziN, ne_eq, reduceCtorEq, not_false_eq_true, true_and, and_true, Option.getD_some, Nat.reduceLeDiff, Nat.reduceLT, c_ofNat, zkd0, zp_0_0 hP1, zp_0_1 hP1, zp_0_2 hP1, zp_0_3 hP1, zp_0_4 hP1, zp_0_5 hP1, zp_0_6 hP1, zp_0_7 hP1, zkd58, zp_58_1 hP1, zp_58_2 hP1, zp_58_6 hP1, zp_58_7 hP1, zp_58_10 hP1, zp_58_11 hP1, zp_58_12 hP1, zp_58_14 hP1, zp_58_15 hP1, zp_58_17 hP1, zp_58_18 hP1, zp_58_19 hP1, zp_58_20 hP1, zp_58_21 hP1, zp_58_22 hP1, zp_58_24 hP1, zp_58_26 hP1, zp_58_29 hP1, zp_58_32 hP1, zp_58_33 hP1, zp_58_34 hP1, zp_58_35 hP1, zp_58_36 hP1, zp_58_37 hP1, zp_58_38 hP1, zp_58_39 hP1, wL_865 hP1, wL_870 hP1, a1, c1, v1, a2, c2, v2]
  refine M150 hv hP1 (zKM_up hM u1) (fun M2 d2 m2 => ?_)
  have fin := nxt _ M2 ⟨vWish _ _ hv, zPk_F hP1 d2, zKC_dn k1 d2, m2⟩
  simp only [w1000_874, w1000_1243, w1000_1246, zk_sI, zk_sJ, zk_sP, zn_sI, zn_sJ, zn_sP, zI_sI, zI_sJ, zI_sP, zJ_sI, zJ_sJ, zJ_sP, zP_sI, zP_sJ, zP_sP, Option.toList_some, Option.toList_none, List.cons_append, List.nil_append, a7, lc_eq, true_implies, not_true_eq_false, false_implies, and_true]
  exact fin
theorem law_23 (hR : zR q M) (hi : i + 7 ≤ X.1) (hx : X.1 < 2 ^ 31) (nxt : ∀ q' M', zR q' M' → zW X 1000 18 [.val (.ref 1000002), .val (.ref 0), .val (.ref 58), .val (.int (nI (i + 7)))] [] M' Q) : zW X 1000 879 [.val (.ref 1000002), .val (.ref 0), .val (.ref 58), .val (.int (nI i))] [] M Q := by
  obtain ⟨hv, hP, hC, hM⟩ := hR
  have a1 : nI i + 1 = nI (i + 1) := nI_add i 1
  have c1 := n_cl (show i + 1 < 2 ^ 31 by omega)
  have v1 := n_in (show i + 1 < X.1 by omega) hx
  have a7 : nI i + 7 = nI (i + 7) := nI_add i 7
  simp only [w1000_879, w1000_880, w1000_881, w1000_882, w1000_883, w1000_884, w1000_885, zk_sI, zk_sJ, zk_sP, zn_sI, zn_sJ, zn_sP, zI_sI, zI_sJ, zI_sP, zJ_sI, zJ_sJ, zJ_sP, zP_sI, zP_sJ, zP_sP, Option.toList_some, Option.toList_none, List.cons_append, List.nil_append, zk_of hP.1, zn_of hP.1, zix, ziN, ne_eq, reduceCtorEq, not_false_eq_true, true_and, and_true, Option.getD_some, Nat.reduceLeDiff, Nat.reduceLT, c_ofNat, zkd0, zp_0_0 hP, zp_0_1 hP, zp_0_2 hP, zp_0_3 hP, zp_0_4 hP, zp_0_5 hP, zp_0_6 hP, zp_0_7 hP, zkd58, zp_58_1 hP, zp_58_2 hP, zp_58_6 hP, zp_58_7 hP, zp_58_10 hP, zp_58_11 hP, zp_58_12 hP, zp_58_14 hP, zp_58_15 hP, zp_58_17 hP, zp_58_18 hP, zp_58_19 hP, zp_58_20 hP, zp_58_21 hP, zp_58_22 hP, zp_58_24 hP, zp_58_26 hP, zp_58_29 hP, zp_58_32 hP, zp_58_33 hP, zp_58_34 hP, zp_58_35 hP, zp_58_36 hP, zp_58_37 hP, zp_58_38 hP, zp_58_39 hP, wL_884 hP, a1, c1, v1]
  refine C73 hv hP hC (fun M1 u1 k1 => ?_)
  have hP1 := u1.1
  simp only [w1000_888, w1000_889, w1000_890, w1000_891, w1000_892, w1000_893, w1000_894, zk_sI, zk_sJ, zk_sP, zn_sI, zn_sJ, zn_sP, zI_sI, zI_sJ, zI_sP, zJ_sI, zJ_sJ, zJ_sP, zP_sI, zP_sJ, zP_sP, Option.toList_some, Option.toList_none, List.cons_append, List.nil_append, zk_of hP1.1, zn_of hP1.1, zix, ziN, ne_eq, reduceCtorEq, not_false_eq_true, true_and, and_true, Option.getD_some, Nat.reduceLeDiff, Nat.reduceLT, c_ofNat, zkd0, zp_0_0 hP1, zp_0_1 hP1, zp_0_2 hP1, zp_0_3 hP1, zp_0_4 hP1, zp_0_5 hP1, zp_0_6 hP1, zp_0_7 hP1, zkd58, zp_58_1 hP1, zp_58_2 hP1, zp_58_6 hP1, zp_58_7 hP1, zp_58_10 hP1, zp_58_11 hP1, zp_58_12 hP1, zp_58_14 hP1, zp_58_15 hP1, zp_58_17 hP1, zp_58_18 hP1, zp_58_19 hP1, zp_58_20 hP1, zp_58_21 hP1, zp_58_22 hP1, zp_58_24 hP1, zp_58_26 hP1, zp_58_29 hP1, zp_58_32 hP1, zp_58_33 hP1, zp_58_34 hP1, zp_58_35 hP1, zp_58_36 hP1, zp_58_37 hP1, zp_58_38 hP1, zp_58_39 hP1, wL_893 hP1, a1, c1, v1]
  refine M151 hv hP1 (zKM_up hM u1) (fun M2 d2 m2 => ?_)
  have fin := nxt _ M2 ⟨hv, zPk_F hP1 d2, zKC_dn k1 d2, m2⟩
  simp only [w1000_897, w1000_1243, w1000_1246, zk_sI, zk_sJ, zk_sP, zn_sI, zn_sJ, zn_sP, zI_sI, zI_sJ, zI_sP, zJ_sI, zJ_sJ, zJ_sP, zP_sI, zP_sJ, zP_sP, Option.toList_some, Option.toList_none, List.cons_append, List.nil_append, a7, lc_eq, true_implies, not_true_eq_false, false_implies, and_true]
  exact fin
theorem law_24 (hR : zR q M) (hi : i + 7 ≤ X.1) (hx : X.1 < 2 ^ 31) (nxt : ∀ q' M', zR q' M' → zW X 1000 18 [.val (.ref 1000002), .val (.ref 0), .val (.ref 58), .val (.int (nI (i + 7)))] [] M' Q) : zW X 1000 902 [.val (.ref 1000002), .val (.ref 0), .val (.ref 58), .val (.int (nI i))] [] M Q := by
  obtain ⟨hv, hP, hC, hM⟩ := hR
  have a1 : nI i + 1 = nI (i + 1) := nI_add i 1
  have c1 := n_cl (show i + 1 < 2 ^ 31 by omega)
  have v1 := n_in (show i + 1 < X.1 by omega) hx
  have a7 : nI i + 7 = nI (i + 7) := nI_add i 7
  simp only [w1000_902, w1000_903, w1000_904, w1000_905, w1000_906, w1000_907, w1000_908, zk_sI, zk_sJ, zk_sP, zn_sI, zn_sJ, zn_sP, zI_sI, zI_sJ, zI_sP, zJ_sI, zJ_sJ, zJ_sP, zP_sI, zP_sJ, zP_sP, Option.toList_some, Option.toList_none, List.cons_append, List.nil_append, zk_of hP.1, zn_of hP.1, zix, ziN, ne_eq, reduceCtorEq, not_false_eq_true, true_and, and_true, Option.getD_some, Nat.reduceLeDiff, Nat.reduceLT, c_ofNat, zkd0, zp_0_0 hP, zp_0_1 hP, zp_0_2 hP, zp_0_3 hP, zp_0_4 hP, zp_0_5 hP, zp_0_6 hP, zp_0_7 hP, zkd58, zp_58_1 hP, zp_58_2 hP, zp_58_6 hP, zp_58_7 hP, zp_58_10 hP, zp_58_11 hP, zp_58_12 hP, zp_58_14 hP, zp_58_15 hP, zp_58_17 hP, zp_58_18 hP, zp_58_19 hP, zp_58_20 hP, zp_58_21 hP, zp_58_22 hP, zp_58_24 hP, zp_58_26 hP, zp_58_29 hP, zp_58_32 hP, zp_58_33 hP, zp_58_34 hP, zp_58_35 hP, zp_58_36 hP, zp_58_37 hP, zp_58_38 hP, zp_58_39 hP, wL_907 hP, a1, c1, v1]
  refine C74 hv hP hC (fun M1 u1 k1 => ?_)
  have hP1 := u1.1
  simp only [w1000_911, w1000_912, w1000_913, w1000_914, w1000_915, w1000_916, w1000_917, zk_sI, zk_sJ, zk_sP, zn_sI, zn_sJ, zn_sP, zI_sI, zI_sJ, zI_sP, zJ_sI, zJ_sJ, zJ_sP, zP_sI, zP_sJ, zP_sP, Option.toList_some, Option.toList_none, List.cons_append, List.nil_append, zk_of hP1.1, zn_of hP1.1, zix, ziN, ne_eq, reduceCtorEq, not_false_eq_true, true_and, and_true, Option.getD_some, Nat.reduceLeDiff, Nat.reduceLT, c_ofNat, zkd0, zp_0_0 hP1, zp_0_1 hP1, zp_0_2 hP1, zp_0_3 hP1, zp_0_4 hP1, zp_0_5 hP1, zp_0_6 hP1, zp_0_7 hP1, zkd58, zp_58_1 hP1, zp_58_2 hP1, zp_58_6 hP1, zp_58_7 hP1, zp_58_10 hP1, zp_58_11 hP1, zp_58_12 hP1, zp_58_14 hP1, zp_58_15 hP1, zp_58_17 hP1, zp_58_18 hP1, zp_58_19 hP1, zp_58_20 hP1, zp_58_21 hP1, zp_58_22 hP1, zp_58_24 hP1, zp_58_26 hP1, zp_58_29 hP1, zp_58_32 hP1, zp_58_33 hP1, zp_58_34 hP1, zp_58_35 hP1, zp_58_36 hP1, zp_58_37 hP1, zp_58_38 hP1, zp_58_39 hP1, wL_916 hP1, a1, c1, v1]
  refine M152 hv hP1 (zKM_up hM u1) (fun M2 d2 m2 => ?_)
  have fin := nxt _ M2 ⟨vPlay _ hv, zPk_F hP1 d2, zKC_dn k1 d2, m2⟩
  simp only [w1000_920, w1000_1243, w1000_1246, zk_sI, zk_sJ, zk_sP, zn_sI, zn_sJ, zn_sP, zI_sI, zI_sJ, zI_sP, zJ_sI, zJ_sJ, zJ_sP, zP_sI, zP_sJ, zP_sP, Option.toList_some, Option.toList_none, List.cons_append, List.nil_append, a7, lc_eq, true_implies, not_true_eq_false, false_implies, and_true]
  exact fin
theorem law_25 (hR : zR q M) (hi : i + 7 ≤ X.1) (hx : X.1 < 2 ^ 31) (nxt : ∀ q' M', zR q' M' → zW X 1000 18 [.val (.ref 1000002), .val (.ref 0), .val (.ref 58), .val (.int (nI (i + 7)))] [] M' Q) : zW X 1000 925 [.val (.ref 1000002), .val (.ref 0), .val (.ref 58), .val (.int (nI i))] [] M Q := by
  obtain ⟨hv, hP, hC, hM⟩ := hR
  have a1 : nI i + 1 = nI (i + 1) := nI_add i 1
  have c1 := n_cl (show i + 1 < 2 ^ 31 by omega)
  have v1 := n_in (show i + 1 < X.1 by omega) hx
  have a7 : nI i + 7 = nI (i + 7) := nI_add i 7
  simp only [w1000_925, w1000_926, w1000_927, w1000_928, w1000_929, w1000_930, w1000_931, zk_sI, zk_sJ, zk_sP, zn_sI, zn_sJ, zn_sP, zI_sI, zI_sJ, zI_sP, zJ_sI, zJ_sJ, zJ_sP, zP_sI, zP_sJ, zP_sP, Option.toList_some, Option.toList_none, List.cons_append, List.nil_append, zk_of hP.1, zn_of hP.1, zix, ziN, ne_eq, reduceCtorEq, not_false_eq_true, true_and, and_true, Option.getD_some, Nat.reduceLeDiff, Nat.reduceLT, c_ofNat, zkd0, zp_0_0 hP, zp_0_1 hP, zp_0_2 hP, zp_0_3 hP, zp_0_4 hP, zp_0_5 hP, zp_0_6 hP, zp_0_7 hP, zkd58, zp_58_1 hP, zp_58_2 hP, zp_58_6 hP, zp_58_7 hP, zp_58_10 hP, zp_58_11 hP, zp_58_12 hP, zp_58_14 hP, zp_58_15 hP, zp_58_17 hP, zp_58_18 hP, zp_58_19 hP, zp_58_20 hP, zp_58_21 hP, zp_58_22 hP, zp_58_24 hP, zp_58_26 hP, zp_58_29 hP, zp_58_32 hP, zp_58_33 hP, zp_58_34 hP, zp_58_35 hP, zp_58_36 hP, zp_58_37 hP, zp_58_38 hP, zp_58_39 hP, wL_930 hP, a1, c1, v1]
  refine C75 hP hC (fun M1 u1 k1 => ?_)
  have hP1 := u1.1
  simp only [w1000_934, w1000_935, w1000_936, w1000_937, w1000_938, w1000_939, w1000_940, zk_sI, zk_sJ, zk_sP, zn_sI, zn_sJ, zn_sP, zI_sI, zI_sJ, zI_sP, zJ_sI, zJ_sJ, zJ_sP, zP_sI, zP_sJ, zP_sP, Option.toList_some, Option.toList_none, List.cons_append, List.nil_append, zk_of hP1.1, zn_of hP1.1, zix, ziN, ne_eq, reduceCtorEq, not_false_eq_true, true_and, and_true, Option.getD_some, Nat.reduceLeDiff, Nat.reduceLT, c_ofNat, zkd0, zp_0_0 hP1, zp_0_1 hP1, zp_0_2 hP1, zp_0_3 hP1, zp_0_4 hP1, zp_0_5 hP1, zp_0_6 hP1, zp_0_7 hP1, zkd58, zp_58_1 hP1, zp_58_2 hP1, zp_58_6 hP1, zp_58_7 hP1, zp_58_10 hP1, zp_58_11 hP1, zp_58_12 hP1, zp_58_14 hP1, zp_58_15 hP1, zp_58_17 hP1, zp_58_18 hP1, zp_58_19 hP1, zp_58_20 hP1, zp_58_21 hP1, zp_58_22 hP1, zp_58_24 hP1, zp_58_26 hP1, zp_58_29 hP1, zp_58_32 hP1, zp_58_33 hP1, zp_58_34 hP1, zp_58_35 hP1, zp_58_36 hP1, zp_58_37 hP1, zp_58_38 hP1, zp_58_39 hP1, wL_939 hP1, a1, c1, v1]
  refine M153 hP1 (zKM_up hM u1) (fun M2 d2 m2 => ?_)
  have fin := nxt _ M2 ⟨hv, zPk_F hP1 d2, zKC_dn k1 d2, m2⟩
  simp only [w1000_943, w1000_1243, w1000_1246, zk_sI, zk_sJ, zk_sP, zn_sI, zn_sJ, zn_sP, zI_sI, zI_sJ, zI_sP, zJ_sI, zJ_sJ, zJ_sP, zP_sI, zP_sJ, zP_sP, Option.toList_some, Option.toList_none, List.cons_append, List.nil_append, a7, lc_eq, true_implies, not_true_eq_false, false_implies, and_true]
  exact fin
theorem law_26 (hR : zR q M) (hi : i + 7 ≤ X.1) (hx : X.1 < 2 ^ 31) (nxt : ∀ q' M', zR q' M' → zW X 1000 18 [.val (.ref 1000002), .val (.ref 0), .val (.ref 58), .val (.int (nI (i + 7)))] [] M' Q) : zW X 1000 948 [.val (.ref 1000002), .val (.ref 0), .val (.ref 58), .val (.int (nI i))] [] M Q := by
  obtain ⟨hv, hP, hC, hM⟩ := hR
  have a1 : nI i + 1 = nI (i + 1) := nI_add i 1
  have c1 := n_cl (show i + 1 < 2 ^ 31 by omega)
  have v1 := n_in (show i + 1 < X.1 by omega) hx
  have a2 : nI i + 2 = nI (i + 2) := nI_add i 2
  have c2 := n_cl (show i + 2 < 2 ^ 31 by omega)
  have v2 := n_in (show i + 2 < X.1 by omega) hx
  have a3 : nI i + 3 = nI (i + 3) := nI_add i 3
  have c3 := n_cl (show i + 3 < 2 ^ 31 by omega)
  have v3 := n_in (show i + 3 < X.1 by omega) hx
  have a7 : nI i + 7 = nI (i + 7) := nI_add i 7
  simp only [w1000_948, w1000_949, w1000_950, w1000_951, w1000_952, w1000_953, w1000_954, w1000_955, w1000_956, w1000_957, w1000_958, w1000_959, w1000_960, w1000_961, w1000_962, w1000_963, w1000_964, zk_sI, zk_sJ, zk_sP, zn_sI, zn_sJ, zn_sP, zI_sI, zI_sJ, zI_sP, zJ_sI, zJ_sJ, zJ_sP, zP_sI, zP_sJ, zP_sP, Option.toList_some, Option.toList_none, List.cons_append, List.nil_append, zk_of hP.1, zn_of hP.1, zix, ziN, ne_eq, reduceCtorEq, not_false_eq_true, true_and, and_true, Option.getD_some, Nat.reduceLeDiff, Nat.reduceLT, c_ofNat, zkd0, zp_0_0 hP, zp_0_1 hP, zp_0_2 hP, zp_0_3 hP, zp_0_4 hP, zp_0_5 hP, zp_0_6 hP, zp_0_7 hP, zkd58, zp_58_1 hP, zp_58_2 hP, zp_58_6 hP, zp_58_7 hP, zp_58_10 hP, zp_58_11 hP, zp_58_12 hP, zp_58_14 hP, zp_58_15 hP, zp_58_17 hP, zp_58_18 hP, zp_58_19 hP, zp_58_20 hP, zp_58_21 hP, zp_58_22 hP, zp_58_24 hP, zp_58_26 hP, zp_58_29 hP, zp_58_32 hP, zp_58_33 hP, zp_58_34 hP, zp_58_35 hP, zp_58_36 hP, zp_58_37 hP, zp_58_38 hP, zp_58_39 hP, wL_953 hP, wL_958 hP, wL_963 hP, a1, c1, v1, a2, c2, v2, a3, c3, v3]
  refine C76 hv hP hC (fun M1 u1 k1 => ?_)
  have hP1 := u1.1
  simp only [w1000_967, w1000_968, w1000_969, w1000_970, w1000_971, w1000_972, w1000_973, w1000_974, w1000_975, w1000_976, w1000_977, w1000_978, w1000_979, w1000_980, w1000_981, w1000_982, w1000_983, zk_sI, zk_sJ, zk_sP, zn_sI, zn_sJ, zn_sP, zI_sI, zI_sJ, zI_sP, zJ_sI, zJ_sJ, zJ_sP, zP_sI, zP_sJ, zP_sP, Option.toList_some, Option.toList_none, List.cons_append, List.nil_append, zk_of hP1.1, zn_of hP1.1, zix, ziN, ne_eq, reduceCtorEq, not_false_eq_true, true_and, and_true, Option.getD_some, Nat.reduceLeDiff, Nat.reduceLT, c_ofNat, zkd0, zp_0_0 hP1, zp_0_1 hP1, zp_0_2 hP1, zp_0_3 hP1, zp_0_4 hP1, zp_0_5 hP1, zp_0_6 hP1, zp_0_7 hP1, zkd58, zp_58_1 hP1, zp_58_2 hP1, zp_58_6 hP1, zp_58_7 hP1, zp_58_10 hP1, zp_58_11 hP1, zp_58_12 hP1, zp_58_14 hP1, zp_58_15 hP1, zp_58_17 hP1, zp_58_18 hP1, zp_58_19 hP1, zp_58_20 hP1, zp_58_21 hP1, zp_58_22 hP1, zp_58_24 hP1, zp_58_26 hP1, zp_58_29 hP1, zp_58_32 hP1, zp_58_33 hP1, zp_58_34 hP1, zp_58_35 hP1, zp_58_36 hP1, zp_58_37 hP1, zp_58_38 hP1, zp_58_39 hP1, wL_972 hP1, wL_977 hP1, wL_982 hP1, a1, c1, v1, a2, c2, v2, a3, c3, v3]
  refine M156 hv hP1 (zKM_up hM u1) (fun M2 d2 m2 => ?_)
  have fin := nxt _ M2 ⟨vSheet _ _ _ hv, zPk_F hP1 d2, zKC_dn k1 d2, m2⟩
  simp only [w1000_986, w1000_1243, w1000_1246, zk_sI, zk_sJ, zk_sP, zn_sI, zn_sJ, zn_sP, zI_sI, zI_sJ, zI_sP, zJ_sI, zJ_sJ, zJ_sP, zP_sI, zP_sJ, zP_sP, Option.toList_some, Option.toList_none, List.cons_append, List.nil_append, a7, lc_eq, true_implies, not_true_eq_false, false_implies, and_true]
  exact fin
theorem law_27 (hR : zR q M) (hi : i + 7 ≤ X.1) (hx : X.1 < 2 ^ 31) (nxt : ∀ q' M', zR q' M' → zW X 1000 18 [.val (.ref 1000002), .val (.ref 0), .val (.ref 58), .val (.int (nI (i + 7)))] [] M' Q) : zW X 1000 991 [.val (.ref 1000002), .val (.ref 0), .val (.ref 58), .val (.int (nI i))] [] M Q := by
  obtain ⟨hv, hP, hC, hM⟩ := hR
  have a1 : nI i + 1 = nI (i + 1) := nI_add i 1
  have c1 := n_cl (show i + 1 < 2 ^ 31 by omega)
  have v1 := n_in (show i + 1 < X.1 by omega) hx
  have a7 : nI i + 7 = nI (i + 7) := nI_add i 7
  simp only [w1000_991, w1000_992, w1000_993, w1000_994, w1000_995, w1000_996, w1000_997, zk_sI, zk_sJ, zk_sP, zn_sI, zn_sJ, zn_sP, zI_sI, zI_sJ, zI_sP, zJ_sI, zJ_sJ, zJ_sP, zP_sI, zP_sJ, zP_sP, Option.toList_some, Option.toList_none, List.cons_append, List.nil_append, zk_of hP.1, zn_of hP.1, zix, ziN, ne_eq, reduceCtorEq, not_false_eq_true, true_and, and_true, Option.getD_some, Nat.reduceLeDiff, Nat.reduceLT, c_ofNat, zkd0, zp_0_0 hP, zp_0_1 hP, zp_0_2 hP, zp_0_3 hP, zp_0_4 hP, zp_0_5 hP, zp_0_6 hP, zp_0_7 hP, zkd58, zp_58_1 hP, zp_58_2 hP, zp_58_6 hP, zp_58_7 hP, zp_58_10 hP, zp_58_11 hP, zp_58_12 hP, zp_58_14 hP, zp_58_15 hP, zp_58_17 hP, zp_58_18 hP, zp_58_19 hP, zp_58_20 hP, zp_58_21 hP, zp_58_22 hP, zp_58_24 hP, zp_58_26 hP, zp_58_29 hP, zp_58_32 hP, zp_58_33 hP, zp_58_34 hP, zp_58_35 hP, zp_58_36 hP, zp_58_37 hP, zp_58_38 hP, zp_58_39 hP, wL_996 hP, a1, c1, v1]
  refine C77 hv hP hC (fun M1 u1 k1 => ?_)
  have hP1 := u1.1
  simp only [w1000_1000, w1000_1001, w1000_1002, w1000_1003, w1000_1004, w1000_1005, w1000_1006, zk_sI, zk_sJ, zk_sP, zn_sI, zn_sJ, zn_sP, zI_sI, zI_sJ, zI_sP, zJ_sI, zJ_sJ, zJ_sP, zP_sI, zP_sJ, zP_sP, Option.toList_some, Option.toList_none, List.cons_append, List.nil_append, zk_of hP1.1, zn_of hP1.1, zix, ziN, ne_eq, reduceCtorEq, not_false_eq_true, true_and, and_true, Option.getD_some, Nat.reduceLeDiff, Nat.reduceLT, c_ofNat, zkd0, zp_0_0 hP1, zp_0_1 hP1, zp_0_2 hP1, zp_0_3 hP1, zp_0_4 hP1, zp_0_5 hP1, zp_0_6 hP1, zp_0_7 hP1, zkd58, zp_58_1 hP1, zp_58_2 hP1, zp_58_6 hP1, zp_58_7 hP1, zp_58_10 hP1, zp_58_11 hP1, zp_58_12 hP1, zp_58_14 hP1, zp_58_15 hP1, zp_58_17 hP1, zp_58_18 hP1, zp_58_19 hP1, zp_58_20 hP1, zp_58_21 hP1, zp_58_22 hP1, zp_58_24 hP1, zp_58_26 hP1, zp_58_29 hP1, zp_58_32 hP1, zp_58_33 hP1, zp_58_34 hP1, zp_58_35 hP1, zp_58_36 hP1, zp_58_37 hP1, zp_58_38 hP1, zp_58_39 hP1, wL_1005 hP1, a1, c1, v1]
  refine M157 hv hP1 (zKM_up hM u1) (fun M2 d2 m2 => ?_)
  have fin := nxt _ M2 ⟨vLose _ hv, zPk_F hP1 d2, zKC_dn k1 d2, m2⟩
  simp only [w1000_1009, w1000_1243, w1000_1246, zk_sI, zk_sJ, zk_sP, zn_sI, zn_sJ, zn_sP, zI_sI, zI_sJ, zI_sP, zJ_sI, zJ_sJ, zJ_sP, zP_sI, zP_sJ, zP_sP, Option.toList_some, Option.toList_none, List.cons_append, List.nil_append, a7, lc_eq, true_implies, not_true_eq_false, false_implies, and_true]
  exact fin
theorem law_28 (hR : zR q M) (hi : i + 7 ≤ X.1) (hx : X.1 < 2 ^ 31) (nxt : ∀ q' M', zR q' M' → zW X 1000 18 [.val (.ref 1000002), .val (.ref 0), .val (.ref 58), .val (.int (nI (i + 7)))] [] M' Q) : zW X 1000 1014 [.val (.ref 1000002), .val (.ref 0), .val (.ref 58), .val (.int (nI i))] [] M Q := by
  obtain ⟨hv, hP, hC, hM⟩ := hR
  have a1 : nI i + 1 = nI (i + 1) := nI_add i 1
  have c1 := n_cl (show i + 1 < 2 ^ 31 by omega)
  have v1 := n_in (show i + 1 < X.1 by omega) hx
  have a2 : nI i + 2 = nI (i + 2) := nI_add i 2
  have c2 := n_cl (show i + 2 < 2 ^ 31 by omega)
  have v2 := n_in (show i + 2 < X.1 by omega) hx
  have a3 : nI i + 3 = nI (i + 3) := nI_add i 3
  have c3 := n_cl (show i + 3 < 2 ^ 31 by omega)
  have v3 := n_in (show i + 3 < X.1 by omega) hx
  have a4 : nI i + 4 = nI (i + 4) := nI_add i 4
  have c4 := n_cl (show i + 4 < 2 ^ 31 by omega)
  have v4 := n_in (show i + 4 < X.1 by omega) hx
  have a7 : nI i + 7 = nI (i + 7) := nI_add i 7
  simp only [w1000_1014, w1000_1015, w1000_1016, w1000_1017, w1000_1018, w1000_1019, w1000_1020, w1000_1021, w1000_1022, w1000_1023, w1000_1024, w1000_1025, w1000_1026, w1000_1027, w1000_1028, w1000_1029, w1000_1030, w1000_1031, w1000_1032, w1000_1033, w1000_1034, w1000_1035, zk_sI, zk_sJ, zk_sP, zn_sI, zn_sJ, zn_sP, zI_sI, zI_sJ, zI_sP, zJ_sI, zJ_sJ, zJ_sP, zP_sI, zP_sJ, zP_sP, Option.toList_some, Option.toList_none, List.cons_append, List.nil_append, zk_of hP.1, zn_of hP.1, zix, ziN, ne_eq, reduceCtorEq, not_false_eq_true, true_and, and_true, Option.getD_some, Nat.reduceLeDiff, Nat.reduceLT, c_ofNat, zkd0, zp_0_0 hP, zp_0_1 hP, zp_0_2 hP, zp_0_3 hP, zp_0_4 hP, zp_0_5 hP, zp_0_6 hP, zp_0_7 hP, zkd58, zp_58_1 hP, zp_58_2 hP, zp_58_6 hP, zp_58_7 hP, zp_58_10 hP, zp_58_11 hP, zp_58_12 hP, zp_58_14 hP, zp_58_15 hP, zp_58_17 hP, zp_58_18 hP, zp_58_19 hP, zp_58_20 hP, zp_58_21 hP, zp_58_22 hP, zp_58_24 hP, zp_58_26 hP, zp_58_29 hP, zp_58_32 hP, zp_58_33 hP, zp_58_34 hP, zp_58_35 hP, zp_58_36 hP, zp_58_37 hP, zp_58_38 hP, zp_58_39 hP, wL_1019 hP, wL_1024 hP, wL_1029 hP, wL_1034 hP, a1, c1, v1, a2, c2, v2, a3, c3, v3, a4, c4, v4]
  refine C78 hv hP hC (fun M1 u1 k1 => ?_)
  have hP1 := u1.1
  simp only [w1000_1038, w1000_1039, w1000_1040, w1000_1041, w1000_1042, w1000_1043, w1000_1044, w1000_1045, w1000_1046, w1000_1047, w1000_1048, w1000_1049, w1000_1050, w1000_1051, w1000_1052, w1000_1053, w1000_1054, w1000_1055, w1000_1056, w1000_1057, w1000_1058, w1000_1059, zk_sI, zk_sJ, zk_sP, zn_sI, zn_sJ, zn_sP, zI_sI, zI_sJ, zI_sP, zJ_sI, zJ_sJ, zJ_sP, zP_sI, zP_sJ, zP_sP, Option.toList_some, Option.toList_none, List.cons_append, List.nil_append, zk_of hP1.1, zn_of hP1.1, zix, ziN, ne_eq, reduceCtorEq, not_false_eq_true, true_and, and_true, Option.getD_some, Nat.reduceLeDiff, Nat.reduceLT, c_ofNat, zkd0, zp_0_0 hP1, zp_0_1 hP1, zp_0_2 hP1, zp_0_3 hP1, zp_0_4 hP1, zp_0_5 hP1, zp_0_6 hP1, zp_0_7 hP1, zkd58, zp_58_1 hP1, zp_58_2 hP1, zp_58_6 hP1, zp_58_7 hP1, zp_58_10 hP1, zp_58_11 hP1, zp_58_12 hP1, zp_58_14 hP1, zp_58_15 hP1, zp_58_17 hP1, zp_58_18 hP1, zp_58_19 hP1, zp_58_20 hP1, zp_58_21 hP1, zp_58_22 hP1, zp_58_24 hP1, zp_58_26 hP1, zp_58_29 hP1, zp_58_32 hP1, zp_58_33 hP1, zp_58_34 hP1, zp_58_35 hP1, zp_58_36 hP1, zp_58_37 hP1, zp_58_38 hP1, zp_58_39 hP1, wL_1043 hP1, wL_1048 hP1, wL_1053 hP1, wL_1058 hP1, a1, c1, v1, a2, c2, v2, a3, c3, v3, a4, c4, v4]
  refine M159 hv hP1 (zKM_up hM u1) (fun M2 d2 m2 => ?_)
  have fin := nxt _ M2 ⟨vPut _ _ _ _ hv, zPk_F hP1 d2, zKC_dn k1 d2, m2⟩
  simp only [w1000_1062, w1000_1243, w1000_1246, zk_sI, zk_sJ, zk_sP, zn_sI, zn_sJ, zn_sP, zI_sI, zI_sJ, zI_sP, zJ_sI, zJ_sJ, zJ_sP, zP_sI, zP_sJ, zP_sP, Option.toList_some, Option.toList_none, List.cons_append, List.nil_append, a7, lc_eq, true_implies, not_true_eq_false, false_implies, and_true]
  exact fin
theorem law_29 (hR : zR q M) (hi : i + 7 ≤ X.1) (hx : X.1 < 2 ^ 31) (nxt : ∀ q' M', zR q' M' → zW X 1000 18 [.val (.ref 1000002), .val (.ref 0), .val (.ref 58), .val (.int (nI (i + 7)))] [] M' Q) : zW X 1000 1067 [.val (.ref 1000002), .val (.ref 0), .val (.ref 58), .val (.int (nI i))] [] M Q := by
  obtain ⟨hv, hP, hC, hM⟩ := hR
  have a1 : nI i + 1 = nI (i + 1) := nI_add i 1
  have c1 := n_cl (show i + 1 < 2 ^ 31 by omega)
  have v1 := n_in (show i + 1 < X.1 by omega) hx
  have a2 : nI i + 2 = nI (i + 2) := nI_add i 2
  have c2 := n_cl (show i + 2 < 2 ^ 31 by omega)
  have v2 := n_in (show i + 2 < X.1 by omega) hx
  have a3 : nI i + 3 = nI (i + 3) := nI_add i 3
  have c3 := n_cl (show i + 3 < 2 ^ 31 by omega)
  have v3 := n_in (show i + 3 < X.1 by omega) hx
  have a7 : nI i + 7 = nI (i + 7) := nI_add i 7
  simp only [w1000_1067, w1000_1068, w1000_1069, w1000_1070, w1000_1071, w1000_1072, w1000_1073, w1000_1074, w1000_1075, w1000_1076, w1000_1077, w1000_1078, w1000_1079, w1000_1080, w1000_1081, w1000_1082, w1000_1083, zk_sI, zk_sJ, zk_sP, zn_sI, zn_sJ, zn_sP, zI_sI, zI_sJ, zI_sP, zJ_sI, zJ_sJ, zJ_sP, zP_sI, zP_sJ, zP_sP, Option.toList_some, Option.toList_none, List.cons_append, List.nil_append, zk_of hP.1, zn_of hP.1, zix, ziN, ne_eq, reduceCtorEq, not_false_eq_true, true_and, and_true, Option.getD_some, Nat.reduceLeDiff, Nat.reduceLT, c_ofNat, zkd0, zp_0_0 hP, zp_0_1 hP, zp_0_2 hP, zp_0_3 hP, zp_0_4 hP, zp_0_5 hP, zp_0_6 hP, zp_0_7 hP, zkd58, zp_58_1 hP, zp_58_2 hP, zp_58_6 hP, zp_58_7 hP, zp_58_10 hP, zp_58_11 hP, zp_58_12 hP, zp_58_14 hP, zp_58_15 hP, zp_58_17 hP, zp_58_18 hP, zp_58_19 hP, zp_58_20 hP, zp_58_21 hP, zp_58_22 hP, zp_58_24 hP, zp_58_26 hP, zp_58_29 hP, zp_58_32 hP, zp_58_33 hP, zp_58_34 hP, zp_58_35 hP, zp_58_36 hP, zp_58_37 hP, zp_58_38 hP, zp_58_39 hP, wL_1072 hP, wL_1077 hP, wL_1082 hP, a1, c1, v1, a2, c2, v2, a3, c3, v3]
  refine C79 hv hP hC (fun M1 u1 k1 => ?_)
  have hP1 := u1.1
  simp only [w1000_1086, w1000_1087, w1000_1088, w1000_1089, w1000_1090, w1000_1091, w1000_1092, w1000_1093, w1000_1094, w1000_1095, w1000_1096, w1000_1097, w1000_1098, w1000_1099, w1000_1100, w1000_1101, w1000_1102, zk_sI, zk_sJ, zk_sP, zn_sI, zn_sJ, zn_sP, zI_sI, zI_sJ, zI_sP, zJ_sI, zJ_sJ, zJ_sP, zP_sI, zP_sJ, zP_sP, Option.toList_some, Option.toList_none, List.cons_append, List.nil_append, zk_of hP1.1, zn_of hP1.1, zix, ziN, ne_eq, reduceCtorEq, not_false_eq_true, true_and, and_true, Option.getD_some, Nat.reduceLeDiff, Nat.reduceLT, c_ofNat, zkd0, zp_0_0 hP1, zp_0_1 hP1, zp_0_2 hP1, zp_0_3 hP1, zp_0_4 hP1, zp_0_5 hP1, zp_0_6 hP1, zp_0_7 hP1, zkd58, zp_58_1 hP1, zp_58_2 hP1, zp_58_6 hP1, zp_58_7 hP1, zp_58_10 hP1, zp_58_11 hP1, zp_58_12 hP1, zp_58_14 hP1, zp_58_15 hP1, zp_58_17 hP1, zp_58_18 hP1, zp_58_19 hP1, zp_58_20 hP1, zp_58_21 hP1, zp_58_22 hP1, zp_58_24 hP1, zp_58_26 hP1, zp_58_29 hP1, zp_58_32 hP1, zp_58_33 hP1, zp_58_34 hP1, zp_58_35 hP1, zp_58_36 hP1, zp_58_37 hP1, zp_58_38 hP1, zp_58_39 hP1, wL_1091 hP1, wL_1096 hP1, wL_1101 hP1, a1, c1, v1, a2, c2, v2, a3, c3, v3]
  refine M160 hv hP1 (zKM_up hM u1) (fun M2 d2 m2 => ?_)
  have fin := nxt _ M2 ⟨vGet _ _ _ hv, zPk_F hP1 d2, zKC_dn k1 d2, m2⟩
  simp only [w1000_1105, w1000_1243, w1000_1246, zk_sI, zk_sJ, zk_sP, zn_sI, zn_sJ, zn_sP, zI_sI, zI_sJ, zI_sP, zJ_sI, zJ_sJ, zJ_sP, zP_sI, zP_sJ, zP_sP, Option.toList_some, Option.toList_none, List.cons_append, List.nil_append, a7, lc_eq, true_implies, not_true_eq_false, false_implies, and_true]
  exact fin
theorem law_30 (hR : zR q M) (hi : i + 7 ≤ X.1) (hx : X.1 < 2 ^ 31) (nxt : ∀ q' M', zR q' M' → zW X 1000 18 [.val (.ref 1000002), .val (.ref 0), .val (.ref 58), .val (.int (nI (i + 7)))] [] M' Q) : zW X 1000 1110 [.val (.ref 1000002), .val (.ref 0), .val (.ref 58), .val (.int (nI i))] [] M Q := by
  obtain ⟨hv, hP, hC, hM⟩ := hR
  have a1 : nI i + 1 = nI (i + 1) := nI_add i 1
  have c1 := n_cl (show i + 1 < 2 ^ 31 by omega)
  have v1 := n_in (show i + 1 < X.1 by omega) hx
  have a2 : nI i + 2 = nI (i + 2) := nI_add i 2
  have c2 := n_cl (show i + 2 < 2 ^ 31 by omega)
  have v2 := n_in (show i + 2 < X.1 by omega) hx
  have a3 : nI i + 3 = nI (i + 3) := nI_add i 3
  have c3 := n_cl (show i + 3 < 2 ^ 31 by omega)
  have v3 := n_in (show i + 3 < X.1 by omega) hx
  have a4 : nI i + 4 = nI (i + 4) := nI_add i 4
  have c4 := n_cl (show i + 4 < 2 ^ 31 by omega)
  have v4 := n_in (show i + 4 < X.1 by omega) hx
  have a5 : nI i + 5 = nI (i + 5) := nI_add i 5
  have c5 := n_cl (show i + 5 < 2 ^ 31 by omega)
  have v5 := n_in (show i + 5 < X.1 by omega) hx
  have a7 : nI i + 7 = nI (i + 7) := nI_add i 7
  simp only [w1000_1110, w1000_1111, w1000_1112, w1000_1113, w1000_1114, w1000_1115, w1000_1116, w1000_1117, w1000_1118, w1000_1119, w1000_1120, w1000_1121, w1000_1122, w1000_1123, w1000_1124, w1000_1125, w1000_1126, w1000_1127, w1000_1128, w1000_1129, w1000_1130, w1000_1131, w1000_1132, w1000_1133, w1000_1134, w1000_1135, w1000_1136, zk_sI, zk_sJ, zk_sP, zn_sI, zn_sJ, zn_sP, zI_sI, zI_sJ, zI_sP, zJ_sI, zJ_sJ, zJ_sP, zP_sI, zP_sJ, zP_sP, Option.toList_some, Option.toList_none, List.cons_append, List.nil_append, zk_of hP.1, zn_of hP.1, zix, ziN, ne_eq, reduceCtorEq, not_false_eq_true, true_and, and_true, Option.getD_some, Nat.reduceLeDiff, Nat.reduceLT, c_ofNat, zkd0, zp_0_0 hP, zp_0_1 hP, zp_0_2 hP, zp_0_3 hP, zp_0_4 hP, zp_0_5 hP, zp_0_6 hP, zp_0_7 hP, zkd58, zp_58_1 hP, zp_58_2 hP, zp_58_6 hP, zp_58_7 hP, zp_58_10 hP, zp_58_11 hP, zp_58_12 hP, zp_58_14 hP, zp_58_15 hP, zp_58_17 hP, zp_58_18 hP, zp_58_19 hP, zp_58_20 hP, zp_58_21 hP, zp_58_22 hP, zp_58_24 hP, zp_58_26 hP, zp_58_29 hP, zp_58_32 hP, zp_58_33 hP, zp_58_34 hP, zp_58_35 hP, zp_58_36 hP, zp_58_37 hP, zp_58_38 hP, zp_58_39 hP, wL_1115 hP, wL_1120 hP, wL_1125 hP, wL_1130 hP, wL_1135 hP, a1, c1, v1, a2, c2, v2, a3, c3, v3, a4, c4, v4, a5, c5, v5]
  refine C80 hv hP hC (fun M1 u1 k1 => ?_)
  have hP1 := u1.1
  simp only [w1000_1139, w1000_1140, w1000_1141, w1000_1142, w1000_1143, w1000_1144, w1000_1145, w1000_1146, w1000_1147, w1000_1148, w1000_1149, w1000_1150, w1000_1151, w1000_1152, w1000_1153, w1000_1154, w1000_1155, w1000_1156, w1000_1157, w1000_1158, w1000_1159, w1000_1160, w1000_1161, w1000_1162, w1000_1163, w1000_1164, w1000_1165, zk_sI, zk_sJ, zk_sP, zn_sI, zn_sJ, zn_sP, zI_sI, zI_sJ, zI_sP, zJ_sI, zJ_sJ, zJ_sP, zP_sI, zP_sJ, zP_sP, Option.toList_some, Option.toList_none, List.cons_append, List.nil_append, zk_of hP1.1, zn_of hP1.1, zix, ziN, ne_eq, reduceCtorEq, not_false_eq_true, true_and, and_true, Option.getD_some, Nat.reduceLeDiff, Nat.reduceLT, c_ofNat, zkd0, zp_0_0 hP1, zp_0_1 hP1, zp_0_2 hP1, zp_0_3 hP1, zp_0_4 hP1, zp_0_5 hP1, zp_0_6 hP1, zp_0_7 hP1, zkd58, zp_58_1 hP1, zp_58_2 hP1, zp_58_6 hP1, zp_58_7 hP1, zp_58_10 hP1, zp_58_11 hP1, zp_58_12 hP1, zp_58_14 hP1, zp_58_15 hP1, zp_58_17 hP1, zp_58_18 hP1, zp_58_19 hP1, zp_58_20 hP1, zp_58_21 hP1, zp_58_22 hP1, zp_58_24 hP1, zp_58_26 hP1, zp_58_29 hP1, zp_58_32 hP1, zp_58_33 hP1, zp_58_34 hP1, zp_58_35 hP1, zp_58_36 hP1, zp_58_37 hP1, zp_58_38 hP1, zp_58_39 hP1, wL_1144 hP1, wL_1149 hP1, wL_1154 hP1, wL_1159 hP1, wL_1164 hP1, a1, c1, v1, a2, c2, v2, a3, c3, v3, a4, c4, v4, a5, c5, v5]
  refine M161 hv hP1 (zKM_up hM u1) (fun M2 d2 m2 => ?_)
  have fin := nxt _ M2 ⟨vCopy _ _ _ _ _ hv, zPk_F hP1 d2, zKC_dn k1 d2, m2⟩
  simp only [w1000_1168, w1000_1243, w1000_1246, zk_sI, zk_sJ, zk_sP, zn_sI, zn_sJ, zn_sP, zI_sI, zI_sJ, zI_sP, zJ_sI, zJ_sJ, zJ_sP, zP_sI, zP_sJ, zP_sP, Option.toList_some, Option.toList_none, List.cons_append, List.nil_append, a7, lc_eq, true_implies, not_true_eq_false, false_implies, and_true]
  exact fin
theorem law_31 (hR : zR q M) (hi : i + 7 ≤ X.1) (hx : X.1 < 2 ^ 31) (nxt : ∀ q' M', zR q' M' → zW X 1000 18 [.val (.ref 1000002), .val (.ref 0), .val (.ref 58), .val (.int (nI (i + 7)))] [] M' Q) : zW X 1000 1173 [.val (.ref 1000002), .val (.ref 0), .val (.ref 58), .val (.int (nI i))] [] M Q := by
  obtain ⟨hv, hP, hC, hM⟩ := hR
  have a1 : nI i + 1 = nI (i + 1) := nI_add i 1
  have c1 := n_cl (show i + 1 < 2 ^ 31 by omega)
  have v1 := n_in (show i + 1 < X.1 by omega) hx
  have a2 : nI i + 2 = nI (i + 2) := nI_add i 2
  have c2 := n_cl (show i + 2 < 2 ^ 31 by omega)
  have v2 := n_in (show i + 2 < X.1 by omega) hx
  have a7 : nI i + 7 = nI (i + 7) := nI_add i 7
  simp only [w1000_1173, w1000_1174, w1000_1175, w1000_1176, w1000_1177, w1000_1178, w1000_1179, w1000_1180, w1000_1181, w1000_1182, w1000_1183, w1000_1184, zk_sI, zk_sJ, zk_sP, zn_sI, zn_sJ, zn_sP, zI_sI, zI_sJ, zI_sP, zJ_sI, zJ_sJ, zJ_sP, zP_sI, zP_sJ, zP_sP, Option.toList_some, Option.toList_none, List.cons_append, List.nil_append, zk_of hP.1, zn_of hP.1, zix, ziN, ne_eq, reduceCtorEq, not_false_eq_true, true_and, and_true, Option.getD_some, Nat.reduceLeDiff, Nat.reduceLT, c_ofNat, zkd0, zp_0_0 hP, zp_0_1 hP, zp_0_2 hP, zp_0_3 hP, zp_0_4 hP, zp_0_5 hP, zp_0_6 hP, zp_0_7 hP, zkd58, zp_58_1 hP, zp_58_2 hP, zp_58_6 hP, zp_58_7 hP, zp_58_10 hP, zp_58_11 hP, zp_58_12 hP, zp_58_14 hP, zp_58_15 hP, zp_58_17 hP, zp_58_18 hP, zp_58_19 hP, zp_58_20 hP, zp_58_21 hP, zp_58_22 hP, zp_58_24 hP, zp_58_26 hP, zp_58_29 hP, zp_58_32 hP, zp_58_33 hP, zp_58_34 hP, zp_58_35 hP, zp_58_36 hP, zp_58_37 hP, zp_58_38 hP, zp_58_39 hP, wL_1178 hP, wL_1183 hP, a1, c1, v1, a2, c2, v2]
  refine C81 hv hP hC (fun M1 u1 k1 => ?_)
  have hP1 := u1.1
  simp only [w1000_1187, w1000_1188, w1000_1189, w1000_1190, w1000_1191, w1000_1192, w1000_1193, w1000_1194, w1000_1195, w1000_1196, w1000_1197, w1000_1198, zk_sI, zk_sJ, zk_sP, zn_sI, zn_sJ, zn_sP, zI_sI, zI_sJ, zI_sP, zJ_sI, zJ_sJ, zJ_sP, zP_sI, zP_sJ, zP_sP, Option.toList_some, Option.toList_none, List.cons_append, List.nil_append, zk_of hP1.1, zn_of hP1.1, zix, ziN, ne_eq, reduceCtorEq, not_false_eq_true, true_and, and_true, Option.getD_some, Nat.reduceLeDiff, Nat.reduceLT, c_ofNat, zkd0, zp_0_0 hP1, zp_0_1 hP1, zp_0_2 hP1, zp_0_3 hP1, zp_0_4 hP1, zp_0_5 hP1, zp_0_6 hP1, zp_0_7 hP1, zkd58, zp_58_1 hP1, zp_58_2 hP1, zp_58_6 hP1, zp_58_7 hP1, zp_58_10 hP1, zp_58_11 hP1, zp_58_12 hP1, zp_58_14 hP1, zp_58_15 hP1, zp_58_17 hP1, zp_58_18 hP1, zp_58_19 hP1, zp_58_20 hP1, zp_58_21 hP1, zp_58_22 hP1, zp_58_24 hP1, zp_58_26 hP1, zp_58_29 hP1, zp_58_32 hP1, zp_58_33 hP1, zp_58_34 hP1, zp_58_35 hP1, zp_58_36 hP1, zp_58_37 hP1, zp_58_38 hP1, zp_58_39 hP1, wL_1192 hP1, wL_1197 hP1, a1, c1, v1, a2, c2, v2]
  refine M162 hv hP1 (zKM_up hM u1) (fun M2 d2 m2 => ?_)
  have fin := nxt _ M2 ⟨vShake _ _ hv, zPk_F hP1 d2, zKC_dn k1 d2, m2⟩
  simp only [w1000_1201, w1000_1243, w1000_1246, zk_sI, zk_sJ, zk_sP, zn_sI, zn_sJ, zn_sP, zI_sI, zI_sJ, zI_sP, zJ_sI, zJ_sJ, zJ_sP, zP_sI, zP_sJ, zP_sP, Option.toList_some, Option.toList_none, List.cons_append, List.nil_append, a7, lc_eq, true_implies, not_true_eq_false, false_implies, and_true]
  exact fin
theorem law_32 (hR : zR q M) (hi : i + 7 ≤ X.1) (hx : X.1 < 2 ^ 31) (nxt : ∀ q' M', zR q' M' → zW X 1000 18 [.val (.ref 1000002), .val (.ref 0), .val (.ref 58), .val (.int (nI (i + 7)))] [] M' Q) : zW X 1000 1206 [.val (.ref 1000002), .val (.ref 0), .val (.ref 58), .val (.int (nI i))] [] M Q := by
  obtain ⟨hv, hP, hC, hM⟩ := hR
  have a1 : nI i + 1 = nI (i + 1) := nI_add i 1
  have c1 := n_cl (show i + 1 < 2 ^ 31 by omega)
  have v1 := n_in (show i + 1 < X.1 by omega) hx
  have a7 : nI i + 7 = nI (i + 7) := nI_add i 7
  simp only [w1000_1206, w1000_1207, w1000_1208, w1000_1209, w1000_1210, w1000_1211, w1000_1212, zk_sI, zk_sJ, zk_sP, zn_sI, zn_sJ, zn_sP, zI_sI, zI_sJ, zI_sP, zJ_sI, zJ_sJ, zJ_sP, zP_sI, zP_sJ, zP_sP, Option.toList_some, Option.toList_none, List.cons_append, List.nil_append, zk_of hP.1, zn_of hP.1, zix, ziN, ne_eq, reduceCtorEq, not_false_eq_true, true_and, and_true, Option.getD_some, Nat.reduceLeDiff, Nat.reduceLT, c_ofNat, zkd0, zp_0_0 hP, zp_0_1 hP, zp_0_2 hP, zp_0_3 hP, zp_0_4 hP, zp_0_5 hP, zp_0_6 hP, zp_0_7 hP, zkd58, zp_58_1 hP, zp_58_2 hP, zp_58_6 hP, zp_58_7 hP, zp_58_10 hP, zp_58_11 hP, zp_58_12 hP, zp_58_14 hP, zp_58_15 hP, zp_58_17 hP, zp_58_18 hP, zp_58_19 hP, zp_58_20 hP, zp_58_21 hP, zp_58_22 hP, zp_58_24 hP, zp_58_26 hP, zp_58_29 hP, zp_58_32 hP, zp_58_33 hP, zp_58_34 hP, zp_58_35 hP, zp_58_36 hP, zp_58_37 hP, zp_58_38 hP, zp_58_39 hP, wL_1211 hP, a1, c1, v1]
  refine C82 hP hC (fun M1 u1 k1 => ?_)
  have hP1 := u1.1
  simp only [w1000_1215, w1000_1216, w1000_1217, w1000_1218, w1000_1219, w1000_1220, w1000_1221, zk_sI, zk_sJ, zk_sP, zn_sI, zn_sJ, zn_sP, zI_sI, zI_sJ, zI_sP, zJ_sI, zJ_sJ, zJ_sP, zP_sI, zP_sJ, zP_sP, Option.toList_some, Option.toList_none, List.cons_append, List.nil_append, zk_of hP1.1, zn_of hP1.1, zix, ziN, ne_eq, reduceCtorEq, not_false_eq_true, true_and, and_true, Option.getD_some, Nat.reduceLeDiff, Nat.reduceLT, c_ofNat, zkd0, zp_0_0 hP1, zp_0_1 hP1, zp_0_2 hP1, zp_0_3 hP1, zp_0_4 hP1, zp_0_5 hP1, zp_0_6 hP1, zp_0_7 hP1, zkd58, zp_58_1 hP1, zp_58_2 hP1, zp_58_6 hP1, zp_58_7 hP1, zp_58_10 hP1, zp_58_11 hP1, zp_58_12 hP1, zp_58_14 hP1, zp_58_15 hP1, zp_58_17 hP1, zp_58_18 hP1, zp_58_19 hP1, zp_58_20 hP1, zp_58_21 hP1, zp_58_22 hP1, zp_58_24 hP1, zp_58_26 hP1, zp_58_29 hP1, zp_58_32 hP1, zp_58_33 hP1, zp_58_34 hP1, zp_58_35 hP1, zp_58_36 hP1, zp_58_37 hP1, zp_58_38 hP1, zp_58_39 hP1, wL_1220 hP1, a1, c1, v1]
  refine M163 hv hP1 (zKM_up hM u1) (fun M2 d2 m2 => ?_)
  have fin := nxt _ M2 ⟨hv, zPk_F hP1 d2, zKC_dn k1 d2, m2⟩
  simp only [w1000_1224, w1000_1243, w1000_1246, zk_sI, zk_sJ, zk_sP, zn_sI, zn_sJ, zn_sP, zI_sI, zI_sJ, zI_sP, zJ_sI, zJ_sJ, zJ_sP, zP_sI, zP_sJ, zP_sP, Option.toList_some, Option.toList_none, List.cons_append, List.nil_append, a7, lc_eq, true_implies, not_true_eq_false, false_implies, and_true]
  exact fin
theorem law_33 (hR : zR q M) (hi : i + 7 ≤ X.1) (hx : X.1 < 2 ^ 31) (nxt : ∀ q' M', zR q' M' → zW X 1000 18 [.val (.ref 1000002), .val (.ref 0), .val (.ref 58), .val (.int (nI (i + 7)))] [] M' Q) : zW X 1000 1229 [.val (.ref 1000002), .val (.ref 0), .val (.ref 58), .val (.int (nI i))] [] M Q := by
  obtain ⟨hv, hP, hC, hM⟩ := hR
  have a7 : nI i + 7 = nI (i + 7) := nI_add i 7
  simp only [w1000_1229, w1000_1230, zk_sI, zk_sJ, zk_sP, zn_sI, zn_sJ, zn_sP, zI_sI, zI_sJ, zI_sP, zJ_sI, zJ_sJ, zJ_sP, zP_sI, zP_sJ, zP_sP, Option.toList_some, Option.toList_none, List.cons_append, List.nil_append, zk_of hP.1, zn_of hP.1, zix, ziN, ne_eq, reduceCtorEq, not_false_eq_true, true_and, and_true, Option.getD_some, Nat.reduceLeDiff, Nat.reduceLT, c_ofNat, zkd0, zp_0_0 hP, zp_0_1 hP, zp_0_2 hP, zp_0_3 hP, zp_0_4 hP, zp_0_5 hP, zp_0_6 hP, zp_0_7 hP, zkd58, zp_58_1 hP, zp_58_2 hP, zp_58_6 hP, zp_58_7 hP, zp_58_10 hP, zp_58_11 hP, zp_58_12 hP, zp_58_14 hP, zp_58_15 hP, zp_58_17 hP, zp_58_18 hP, zp_58_19 hP, zp_58_20 hP, zp_58_21 hP, zp_58_22 hP, zp_58_24 hP, zp_58_26 hP, zp_58_29 hP, zp_58_32 hP, zp_58_33 hP, zp_58_34 hP, zp_58_35 hP, zp_58_36 hP, zp_58_37 hP, zp_58_38 hP, zp_58_39 hP]
  refine C83 hv hP hC (fun M1 u1 k1 => ?_)
  have hP1 := u1.1
  simp only [w1000_1233, w1000_1234, zk_sI, zk_sJ, zk_sP, zn_sI, zn_sJ, zn_sP, zI_sI, zI_sJ, zI_sP, zJ_sI, zJ_sJ, zJ_sP, zP_sI, zP_sJ, zP_sP, Option.toList_some, Option.toList_none, List.cons_append, List.nil_append, zk_of hP1.1, zn_of hP1.1, zix, ziN, ne_eq, reduceCtorEq, not_false_eq_true, true_and, and_true, Option.getD_some, Nat.reduceLeDiff, Nat.reduceLT, c_ofNat, zkd0, zp_0_0 hP1, zp_0_1 hP1, zp_0_2 hP1, zp_0_3 hP1, zp_0_4 hP1, zp_0_5 hP1, zp_0_6 hP1, zp_0_7 hP1, zkd58, zp_58_1 hP1, zp_58_2 hP1, zp_58_6 hP1, zp_58_7 hP1, zp_58_10 hP1, zp_58_11 hP1, zp_58_12 hP1, zp_58_14 hP1, zp_58_15 hP1, zp_58_17 hP1, zp_58_18 hP1, zp_58_19 hP1, zp_58_20 hP1, zp_58_21 hP1, zp_58_22 hP1, zp_58_24 hP1, zp_58_26 hP1, zp_58_29 hP1, zp_58_32 hP1, zp_58_33 hP1, zp_58_34 hP1, zp_58_35 hP1, zp_58_36 hP1, zp_58_37 hP1, zp_58_38 hP1, zp_58_39 hP1]
  refine M164 hv hP1 (zKM_up hM u1) (fun M2 d2 m2 => ?_)
  have fin := nxt _ M2 ⟨hv, zPk_F hP1 d2, zKC_dn k1 d2, m2⟩
  simp only [w1000_1237, w1000_1238, w1000_1243, w1000_1246, zk_sI, zk_sJ, zk_sP, zn_sI, zn_sJ, zn_sP, zI_sI, zI_sJ, zI_sP, zJ_sI, zJ_sJ, zJ_sP, zP_sI, zP_sJ, zP_sP, Option.toList_some, Option.toList_none, List.cons_append, List.nil_append, a7, lc_eq, true_implies, not_true_eq_false, false_implies, and_true]
  exact fin
end ZLa
