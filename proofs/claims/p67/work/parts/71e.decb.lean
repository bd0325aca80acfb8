theorem dL_act_335 : decode cL_act 335 = .ok (.irem, 1) := by decide +kernel
theorem dL_act_336 : decode cL_act 336 = .ok (.iadd, 1) := by decide +kernel
theorem dL_act_337 : decode cL_act 337 = .ok (.invokestatic 240, 3) := by decide +kernel
theorem dL_act_340 : decode cL_act 340 = .ok (.iload_n 3, 1) := by decide +kernel
theorem dL_act_341 : decode cL_act 341 = .ok (.iload 6, 2) := by decide +kernel
theorem dL_act_343 : decode cL_act 343 = .ok (.invokestatic 245, 3) := by decide +kernel
theorem dL_act_346 : decode cL_act 346 = .ok (.ireturn, 1) := by decide +kernel
theorem dL_act_347 : decode cL_act 347 = .ok (.iload_n 3, 1) := by decide +kernel
theorem dL_act_348 : decode cL_act 348 = .ok (.bipush 10, 2) := by decide +kernel
theorem dL_act_350 : decode cL_act 350 = .ok (.if_icmp .ge 54, 3) := by decide +kernel
theorem dL_act_353 : decode cL_act 353 = .ok (.iconst 0, 1) := by decide +kernel
theorem dL_act_354 : decode cL_act 354 = .ok (.istore 8, 2) := by decide +kernel
theorem dL_act_356 : decode cL_act 356 = .ok (.iconst 0, 1) := by decide +kernel
theorem dL_act_357 : decode cL_act 357 = .ok (.istore 9, 2) := by decide +kernel
theorem dL_act_359 : decode cL_act 359 = .ok (.iload 9, 2) := by decide +kernel
theorem dL_act_361 : decode cL_act 361 = .ok (.iload 6, 2) := by decide +kernel
theorem dL_act_363 : decode cL_act 363 = .ok (.iconst 3, 1) := by decide +kernel
theorem dL_act_364 : decode cL_act 364 = .ok (.irem, 1) := by decide +kernel
theorem dL_act_365 : decode cL_act 365 = .ok (.if_icmp .gt 18, 3) := by decide +kernel
theorem dL_act_368 : decode cL_act 368 = .ok (.iload 8, 2) := by decide +kernel
theorem dL_act_370 : decode cL_act 370 = .ok (.aload_n 1, 1) := by decide +kernel
theorem dL_act_371 : decode cL_act 371 = .ok (.invokevirtual 249, 3) := by decide +kernel
theorem dL_act_374 : decode cL_act 374 = .ok (.iadd, 1) := by decide +kernel
theorem dL_act_375 : decode cL_act 375 = .ok (.istore 8, 2) := by decide +kernel
theorem dL_act_377 : decode cL_act 377 = .ok (.iinc 9 1, 3) := by decide +kernel
theorem dL_act_380 : decode cL_act 380 = .ok (.goto (-21), 3) := by decide +kernel
theorem dL_act_383 : decode cL_act 383 = .ok (.aload_n 0, 1) := by decide +kernel
theorem dL_act_384 : decode cL_act 384 = .ok (.iconst 1, 1) := by decide +kernel
theorem dL_act_385 : decode cL_act 385 = .ok (.iload 6, 2) := by decide +kernel
theorem dL_act_387 : decode cL_act 387 = .ok (.iconst 3, 1) := by decide +kernel
theorem dL_act_388 : decode cL_act 388 = .ok (.irem, 1) := by decide +kernel
theorem dL_act_389 : decode cL_act 389 = .ok (.iadd, 1) := by decide +kernel
theorem dL_act_390 : decode cL_act 390 = .ok (.invokevirtual 94, 3) := by decide +kernel
theorem dL_act_393 : decode cL_act 393 = .ok (.iload 8, 2) := by decide +kernel
theorem dL_act_395 : decode cL_act 395 = .ok (.if_icmp .ne 7, 3) := by decide +kernel
theorem dL_act_398 : decode cL_act 398 = .ok (.iconst 1, 1) := by decide +kernel
theorem dL_act_399 : decode cL_act 399 = .ok (.goto 4, 3) := by decide +kernel
theorem dL_act_402 : decode cL_act 402 = .ok (.iconst 0, 1) := by decide +kernel
theorem dL_act_403 : decode cL_act 403 = .ok (.ireturn, 1) := by decide +kernel
theorem dL_act_404 : decode cL_act 404 = .ok (.iload_n 3, 1) := by decide +kernel
theorem dL_act_405 : decode cL_act 405 = .ok (.bipush 10, 2) := by decide +kernel
theorem dL_act_407 : decode cL_act 407 = .ok (.if_icmp .ne 78, 3) := by decide +kernel
theorem dL_act_410 : decode cL_act 410 = .ok (.aload 7, 2) := by decide +kernel
theorem dL_act_412 : decode cL_act 412 = .ok (.invokevirtual 185, 3) := by decide +kernel
theorem dL_act_415 : decode cL_act 415 = .ok (.istore 8, 2) := by decide +kernel
theorem dL_act_417 : decode cL_act 417 = .ok (.aload_n 1, 1) := by decide +kernel
theorem dL_act_418 : decode cL_act 418 = .ok (.getfield 172, 3) := by decide +kernel
theorem dL_act_421 : decode cL_act 421 = .ok (.bipush 6, 2) := by decide +kernel
theorem dL_act_423 : decode cL_act 423 = .ok (.dup2, 1) := by decide +kernel
theorem dL_act_424 : decode cL_act 424 = .ok (.iaload, 1) := by decide +kernel
theorem dL_act_425 : decode cL_act 425 = .ok (.aload 7, 2) := by decide +kernel
theorem dL_act_427 : decode cL_act 427 = .ok (.invokevirtual 209, 3) := by decide +kernel
theorem dL_act_430 : decode cL_act 430 = .ok (.iadd, 1) := by decide +kernel
theorem dL_act_431 : decode cL_act 431 = .ok (.iastore, 1) := by decide +kernel
theorem dL_act_432 : decode cL_act 432 = .ok (.aload_n 1, 1) := by decide +kernel
theorem dL_act_433 : decode cL_act 433 = .ok (.getfield 172, 3) := by decide +kernel
theorem dL_act_436 : decode cL_act 436 = .ok (.bipush 8, 2) := by decide +kernel
theorem dL_act_438 : decode cL_act 438 = .ok (.dup2, 1) := by decide +kernel
theorem dL_act_439 : decode cL_act 439 = .ok (.iaload, 1) := by decide +kernel
theorem dL_act_440 : decode cL_act 440 = .ok (.iconst 1, 1) := by decide +kernel
theorem dL_act_441 : decode cL_act 441 = .ok (.iadd, 1) := by decide +kernel
theorem dL_act_442 : decode cL_act 442 = .ok (.iastore, 1) := by decide +kernel
theorem dL_act_443 : decode cL_act 443 = .ok (.aload_n 1, 1) := by decide +kernel
theorem dL_act_444 : decode cL_act 444 = .ok (.getfield 168, 3) := by decide +kernel
theorem dL_act_447 : decode cL_act 447 = .ok (.iconst 4, 1) := by decide +kernel
theorem dL_act_448 : decode cL_act 448 = .ok (.iaload, 1) := by decide +kernel
theorem dL_act_449 : decode cL_act 449 = .ok (.iconst 1, 1) := by decide +kernel
theorem dL_act_450 : decode cL_act 450 = .ok (.if_icmp .ne 18, 3) := by decide +kernel
theorem dL_act_453 : decode cL_act 453 = .ok (.aload 7, 2) := by decide +kernel
theorem dL_act_455 : decode cL_act 455 = .ok (.getfield 190, 3) := by decide +kernel
theorem dL_act_458 : decode cL_act 458 = .ok (.ifnull 10, 3) := by decide +kernel
theorem dL_act_461 : decode cL_act 461 = .ok (.aload_n 1, 1) := by decide +kernel
theorem dL_act_462 : decode cL_act 462 = .ok (.aload 7, 2) := by decide +kernel
theorem dL_act_464 : decode cL_act 464 = .ok (.iconst 2, 1) := by decide +kernel
theorem dL_act_465 : decode cL_act 465 = .ok (.invokevirtual 251, 3) := by decide +kernel
theorem dL_act_468 : decode cL_act 468 = .ok (.aload_n 0, 1) := by decide +kernel
theorem dL_act_469 : decode cL_act 469 = .ok (.iload 5, 2) := by decide +kernel
theorem dL_act_471 : decode cL_act 471 = .ok (.invokevirtual 91, 3) := by decide +kernel
theorem dL_act_474 : decode cL_act 474 = .ok (.iload 8, 2) := by decide +kernel
theorem dL_act_476 : decode cL_act 476 = .ok (.if_icmp .ne 7, 3) := by decide +kernel
theorem dL_act_479 : decode cL_act 479 = .ok (.iconst 1, 1) := by decide +kernel
theorem dL_act_480 : decode cL_act 480 = .ok (.goto 4, 3) := by decide +kernel
theorem dL_act_483 : decode cL_act 483 = .ok (.iconst 0, 1) := by decide +kernel
theorem dL_act_484 : decode cL_act 484 = .ok (.ireturn, 1) := by decide +kernel
theorem dL_act_485 : decode cL_act 485 = .ok (.iload_n 3, 1) := by decide +kernel
theorem dL_act_486 : decode cL_act 486 = .ok (.bipush 11, 2) := by decide +kernel
theorem dL_act_488 : decode cL_act 488 = .ok (.if_icmp .ne 87, 3) := by decide +kernel
theorem dL_act_491 : decode cL_act 491 = .ok (.iload 6, 2) := by decide +kernel
theorem dL_act_493 : decode cL_act 493 = .ok (.iconst 2, 1) := by decide +kernel
theorem dL_act_494 : decode cL_act 494 = .ok (.irem, 1) := by decide +kernel
theorem dL_act_495 : decode cL_act 495 = .ok (.iconst 1, 1) := by decide +kernel
theorem dL_act_496 : decode cL_act 496 = .ok (.if_icmp .ne 15, 3) := by decide +kernel
theorem dL_act_499 : decode cL_act 499 = .ok (.aload 7, 2) := by decide +kernel
theorem dL_act_501 : decode cL_act 501 = .ok (.getfield 190, 3) := by decide +kernel
theorem dL_act_504 : decode cL_act 504 = .ok (.ifnull 7, 3) := by decide +kernel
theorem dL_act_507 : decode cL_act 507 = .ok (.iconst 1, 1) := by decide +kernel
theorem dL_act_508 : decode cL_act 508 = .ok (.goto 4, 3) := by decide +kernel
theorem dL_act_511 : decode cL_act 511 = .ok (.iconst 0, 1) := by decide +kernel
theorem dL_act_512 : decode cL_act 512 = .ok (.istore 8, 2) := by decide +kernel
theorem dL_act_514 : decode cL_act 514 = .ok (.aload 7, 2) := by decide +kernel
theorem dL_act_516 : decode cL_act 516 = .ok (.iload 6, 2) := by decide +kernel
theorem dL_act_518 : decode cL_act 518 = .ok (.iconst 2, 1) := by decide +kernel
theorem dL_act_519 : decode cL_act 519 = .ok (.irem, 1) := by decide +kernel
theorem dL_act_520 : decode cL_act 520 = .ok (.iconst 1, 1) := by decide +kernel
theorem dL_act_521 : decode cL_act 521 = .ok (.if_icmp .ne 7, 3) := by decide +kernel
theorem dL_act_524 : decode cL_act 524 = .ok (.iconst 1, 1) := by decide +kernel
theorem dL_act_525 : decode cL_act 525 = .ok (.goto 4, 3) := by decide +kernel
theorem dL_act_528 : decode cL_act 528 = .ok (.iconst 0, 1) := by decide +kernel
theorem dL_act_529 : decode cL_act 529 = .ok (.putfield 202, 3) := by decide +kernel
theorem dL_act_532 : decode cL_act 532 = .ok (.iload 8, 2) := by decide +kernel
theorem dL_act_534 : decode cL_act 534 = .ok (.iconst 1, 1) := by decide +kernel
theorem dL_act_535 : decode cL_act 535 = .ok (.if_icmp .ne 10, 3) := by decide +kernel
theorem dL_act_538 : decode cL_act 538 = .ok (.aload_n 1, 1) := by decide +kernel
theorem dL_act_539 : decode cL_act 539 = .ok (.aload 7, 2) := by decide +kernel
theorem dL_act_541 : decode cL_act 541 = .ok (.iconst 2, 1) := by decide +kernel
theorem dL_act_542 : decode cL_act 542 = .ok (.invokevirtual 251, 3) := by decide +kernel
theorem dL_act_545 : decode cL_act 545 = .ok (.aload_n 0, 1) := by decide +kernel
theorem dL_act_546 : decode cL_act 546 = .ok (.iload 5, 2) := by decide +kernel
theorem dL_act_548 : decode cL_act 548 = .ok (.iload 6, 2) := by decide +kernel
theorem dL_act_550 : decode cL_act 550 = .ok (.iconst 2, 1) := by decide +kernel
theorem dL_act_551 : decode cL_act 551 = .ok (.irem, 1) := by decide +kernel
theorem dL_act_552 : decode cL_act 552 = .ok (.iconst 1, 1) := by decide +kernel
theorem dL_act_553 : decode cL_act 553 = .ok (.if_icmp .ne 7, 3) := by decide +kernel
theorem dL_act_556 : decode cL_act 556 = .ok (.iconst 1, 1) := by decide +kernel
theorem dL_act_557 : decode cL_act 557 = .ok (.goto 4, 3) := by decide +kernel
theorem dL_act_560 : decode cL_act 560 = .ok (.iconst 0, 1) := by decide +kernel
theorem dL_act_561 : decode cL_act 561 = .ok (.invokevirtual 100, 3) := by decide +kernel
theorem dL_act_564 : decode cL_act 564 = .ok (.iload 8, 2) := by decide +kernel
theorem dL_act_566 : decode cL_act 566 = .ok (.if_icmp .ne 7, 3) := by decide +kernel
theorem dL_act_569 : decode cL_act 569 = .ok (.iconst 1, 1) := by decide +kernel
theorem dL_act_570 : decode cL_act 570 = .ok (.goto 4, 3) := by decide +kernel
theorem dL_act_573 : decode cL_act 573 = .ok (.iconst 0, 1) := by decide +kernel
theorem dL_act_574 : decode cL_act 574 = .ok (.ireturn, 1) := by decide +kernel
theorem dL_act_575 : decode cL_act 575 = .ok (.iload 6, 2) := by decide +kernel
theorem dL_act_577 : decode cL_act 577 = .ok (.iconst 5, 1) := by decide +kernel
theorem dL_act_578 : decode cL_act 578 = .ok (.irem, 1) := by decide +kernel
theorem dL_act_579 : decode cL_act 579 = .ok (.istore 8, 2) := by decide +kernel
theorem dL_act_581 : decode cL_act 581 = .ok (.iload 8, 2) := by decide +kernel
theorem dL_act_583 : decode cL_act 583 = .ok (.ifCond .ne 10, 3) := by decide +kernel
theorem dL_act_586 : decode cL_act 586 = .ok (.iconst 1, 1) := by decide +kernel
theorem dL_act_587 : decode cL_act 587 = .ok (.iload 5, 2) := by decide +kernel
theorem dL_act_589 : decode cL_act 589 = .ok (.iadd, 1) := by decide +kernel
theorem dL_act_590 : decode cL_act 590 = .ok (.goto 31, 3) := by decide +kernel
theorem dL_act_593 : decode cL_act 593 = .ok (.iload 8, 2) := by decide +kernel
theorem dL_act_595 : decode cL_act 595 = .ok (.iconst 1, 1) := by decide +kernel
theorem dL_act_596 : decode cL_act 596 = .ok (.if_icmp .ne 8, 3) := by decide +kernel
theorem dL_act_599 : decode cL_act 599 = .ok (.iload 5, 2) := by decide +kernel
theorem dL_act_601 : decode cL_act 601 = .ok (.goto 20, 3) := by decide +kernel
theorem dL_act_604 : decode cL_act 604 = .ok (.iload 8, 2) := by decide +kernel
theorem dL_act_606 : decode cL_act 606 = .ok (.iconst 2, 1) := by decide +kernel
theorem dL_act_607 : decode cL_act 607 = .ok (.if_icmp .ne 10, 3) := by decide +kernel
theorem dL_act_610 : decode cL_act 610 = .ok (.iload 5, 2) := by decide +kernel
theorem dL_act_612 : decode cL_act 612 = .ok (.iconst 4, 1) := by decide +kernel
theorem dL_act_613 : decode cL_act 613 = .ok (.irem, 1) := by decide +kernel
theorem dL_act_614 : decode cL_act 614 = .ok (.goto 7, 3) := by decide +kernel
theorem dL_act_617 : decode cL_act 617 = .ok (.iload 5, 2) := by decide +kernel
theorem dL_act_619 : decode cL_act 619 = .ok (.iconst 2, 1) := by decide +kernel
theorem dL_act_620 : decode cL_act 620 = .ok (.irem, 1) := by decide +kernel
theorem dL_act_621 : decode cL_act 621 = .ok (.istore 9, 2) := by decide +kernel
theorem dL_act_623 : decode cL_act 623 = .ok (.aload_n 1, 1) := by decide +kernel
theorem dL_act_624 : decode cL_act 624 = .ok (.getfield 168, 3) := by decide +kernel
theorem dL_act_627 : decode cL_act 627 = .ok (.iload 8, 2) := by decide +kernel
theorem dL_act_629 : decode cL_act 629 = .ok (.iaload, 1) := by decide +kernel
theorem dL_act_630 : decode cL_act 630 = .ok (.istore 10, 2) := by decide +kernel
theorem dL_act_632 : decode cL_act 632 = .ok (.aload_n 1, 1) := by decide +kernel
theorem dL_act_633 : decode cL_act 633 = .ok (.getfield 168, 3) := by decide +kernel
theorem dL_act_636 : decode cL_act 636 = .ok (.iload 8, 2) := by decide +kernel
theorem dL_act_638 : decode cL_act 638 = .ok (.iload 9, 2) := by decide +kernel
theorem dL_act_640 : decode cL_act 640 = .ok (.iastore, 1) := by decide +kernel
theorem dL_act_641 : decode cL_act 641 = .ok (.aload_n 1, 1) := by decide +kernel
theorem dL_act_642 : decode cL_act 642 = .ok (.invokevirtual 255, 3) := by decide +kernel
theorem dL_act_645 : decode cL_act 645 = .ok (.aload_n 0, 1) := by decide +kernel
theorem dL_act_646 : decode cL_act 646 = .ok (.iload 8, 2) := by decide +kernel
theorem dL_act_648 : decode cL_act 648 = .ok (.iload 9, 2) := by decide +kernel
theorem dL_act_650 : decode cL_act 650 = .ok (.invokevirtual 103, 3) := by decide +kernel
theorem dL_act_653 : decode cL_act 653 = .ok (.iload 10, 2) := by decide +kernel
theorem dL_act_655 : decode cL_act 655 = .ok (.if_icmp .ne 33, 3) := by decide +kernel
theorem dL_act_658 : decode cL_act 658 = .ok (.aload_n 0, 1) := by decide +kernel
theorem dL_act_659 : decode cL_act 659 = .ok (.bipush 22, 2) := by decide +kernel
theorem dL_act_661 : decode cL_act 661 = .ok (.iload 8, 2) := by decide +kernel
theorem dL_act_663 : decode cL_act 663 = .ok (.iload 8, 2) := by decide +kernel
theorem dL_act_665 : decode cL_act 665 = .ok (.iconst 1, 1) := by decide +kernel
theorem dL_act_666 : decode cL_act 666 = .ok (.if_icmp .ne 8, 3) := by decide +kernel
theorem dL_act_669 : decode cL_act 669 = .ok (.bipush 97, 2) := by decide +kernel
theorem dL_act_671 : decode cL_act 671 = .ok (.goto 5, 3) := by decide +kernel
theorem dL_act_674 : decode cL_act 674 = .ok (.bipush 21, 2) := by decide +kernel
theorem dL_act_676 : decode cL_act 676 = .ok (.iconst 0, 1) := by decide +kernel
theorem dL_act_677 : decode cL_act 677 = .ok (.invokestatic 226, 3) := by decide +kernel
theorem dL_act_680 : decode cL_act 680 = .ok (.iconst 3, 1) := by decide +kernel
theorem dL_act_681 : decode cL_act 681 = .ok (.if_icmp .ne 7, 3) := by decide +kernel
theorem dL_act_684 : decode cL_act 684 = .ok (.iconst 1, 1) := by decide +kernel
theorem dL_act_685 : decode cL_act 685 = .ok (.goto 4, 3) := by decide +kernel
theorem dL_act_688 : decode cL_act 688 = .ok (.iconst 0, 1) := by decide +kernel
theorem dL_act_689 : decode cL_act 689 = .ok (.ireturn, 1) := by decide +kernel
theorem dL_moves_0 : decode cL_moves 0 = .ok (.aload_n 1, 1) := by decide +kernel
theorem dL_moves_1 : decode cL_moves 1 = .ok (.getfield 154, 3) := by decide +kernel
theorem dL_moves_4 : decode cL_moves 4 = .ok (.arraylength, 1) := by decide +kernel
theorem dL_moves_5 : decode cL_moves 5 = .ok (.istore 4, 2) := by decide +kernel
theorem dL_moves_7 : decode cL_moves 7 = .ok (.aload_n 2, 1) := by decide +kernel
theorem dL_moves_8 : decode cL_moves 8 = .ok (.iconst 0, 1) := by decide +kernel
theorem dL_moves_9 : decode cL_moves 9 = .ok (.iload 4, 2) := by decide +kernel
theorem dL_moves_11 : decode cL_moves 11 = .ok (.iconst 1, 1) := by decide +kernel
theorem dL_moves_12 : decode cL_moves 12 = .ok (.isub, 1) := by decide +kernel
theorem dL_moves_13 : decode cL_moves 13 = .ok (.invokevirtual 217, 3) := by decide +kernel
theorem dL_moves_16 : decode cL_moves 16 = .ok (.istore 5, 2) := by decide +kernel
theorem dL_moves_18 : decode cL_moves 18 = .ok (.aload_n 2, 1) := by decide +kernel
theorem dL_moves_19 : decode cL_moves 19 = .ok (.iconst 1, 1) := by decide +kernel
theorem dL_moves_20 : decode cL_moves 20 = .ok (.iload 4, 2) := by decide +kernel
theorem dL_moves_22 : decode cL_moves 22 = .ok (.invokevirtual 217, 3) := by decide +kernel
theorem dL_moves_25 : decode cL_moves 25 = .ok (.istore 6, 2) := by decide +kernel
theorem dL_moves_27 : decode cL_moves 27 = .ok (.aload_n 2, 1) := by decide +kernel
theorem dL_moves_28 : decode cL_moves 28 = .ok (.iconst 0, 1) := by decide +kernel
theorem dL_moves_29 : decode cL_moves 29 = .ok (.iconst 1, 1) := by decide +kernel
theorem dL_moves_30 : decode cL_moves 30 = .ok (.invokevirtual 217, 3) := by decide +kernel
theorem dL_moves_33 : decode cL_moves 33 = .ok (.ifCond .ne 87, 3) := by decide +kernel
theorem dL_moves_36 : decode cL_moves 36 = .ok (.iload_n 3, 1) := by decide +kernel
theorem dL_moves_37 : decode cL_moves 37 = .ok (.iload 5, 2) := by decide +kernel
theorem dL_moves_39 : decode cL_moves 39 = .ok (.if_icmp .eq 28, 3) := by decide +kernel
theorem dL_moves_42 : decode cL_moves 42 = .ok (.aload_n 1, 1) := by decide +kernel
theorem dL_moves_43 : decode cL_moves 43 = .ok (.getfield 154, 3) := by decide +kernel
theorem dL_moves_46 : decode cL_moves 46 = .ok (.iload_n 3, 1) := by decide +kernel
theorem dL_moves_47 : decode cL_moves 47 = .ok (.aaload, 1) := by decide +kernel
theorem dL_moves_48 : decode cL_moves 48 = .ok (.getfield 202, 3) := by decide +kernel
theorem dL_moves_51 : decode cL_moves 51 = .ok (.ifCond .ne 16, 3) := by decide +kernel
theorem dL_moves_54 : decode cL_moves 54 = .ok (.aload_n 1, 1) := by decide +kernel
theorem dL_moves_55 : decode cL_moves 55 = .ok (.getfield 154, 3) := by decide +kernel
theorem dL_moves_58 : decode cL_moves 58 = .ok (.iload 5, 2) := by decide +kernel
theorem dL_moves_60 : decode cL_moves 60 = .ok (.aaload, 1) := by decide +kernel
theorem dL_moves_61 : decode cL_moves 61 = .ok (.getfield 202, 3) := by decide +kernel
theorem dL_moves_64 : decode cL_moves 64 = .ok (.ifCond .eq 23, 3) := by decide +kernel
theorem dL_moves_67 : decode cL_moves 67 = .ok (.aload_n 0, 1) := by decide +kernel
theorem dL_moves_68 : decode cL_moves 68 = .ok (.bipush 31, 2) := by decide +kernel
theorem dL_moves_70 : decode cL_moves 70 = .ok (.iload_n 3, 1) := by decide +kernel
theorem dL_moves_71 : decode cL_moves 71 = .ok (.iload 5, 2) := by decide +kernel
theorem dL_moves_73 : decode cL_moves 73 = .ok (.iconst 0, 1) := by decide +kernel
theorem dL_moves_74 : decode cL_moves 74 = .ok (.invokestatic 226, 3) := by decide +kernel
theorem dL_moves_77 : decode cL_moves 77 = .ok (.iconst 3, 1) := by decide +kernel
theorem dL_moves_78 : decode cL_moves 78 = .ok (.if_icmp .ne 7, 3) := by decide +kernel
theorem dL_moves_81 : decode cL_moves 81 = .ok (.iconst 1, 1) := by decide +kernel
theorem dL_moves_82 : decode cL_moves 82 = .ok (.goto 4, 3) := by decide +kernel
theorem dL_moves_85 : decode cL_moves 85 = .ok (.iconst 0, 1) := by decide +kernel
theorem dL_moves_86 : decode cL_moves 86 = .ok (.ireturn, 1) := by decide +kernel
theorem dL_moves_87 : decode cL_moves 87 = .ok (.aload_n 0, 1) := by decide +kernel
theorem dL_moves_88 : decode cL_moves 88 = .ok (.iload_n 3, 1) := by decide +kernel
theorem dL_moves_89 : decode cL_moves 89 = .ok (.iload 5, 2) := by decide +kernel
theorem dL_moves_91 : decode cL_moves 91 = .ok (.invokevirtual 124, 3) := by decide +kernel
theorem dL_moves_94 : decode cL_moves 94 = .ok (.aload_n 1, 1) := by decide +kernel
theorem dL_moves_95 : decode cL_moves 95 = .ok (.aload_n 1, 1) := by decide +kernel
theorem dL_moves_96 : decode cL_moves 96 = .ok (.getfield 154, 3) := by decide +kernel
theorem dL_moves_99 : decode cL_moves 99 = .ok (.iload_n 3, 1) := by decide +kernel
theorem dL_moves_100 : decode cL_moves 100 = .ok (.aaload, 1) := by decide +kernel
theorem dL_moves_101 : decode cL_moves 101 = .ok (.aload_n 1, 1) := by decide +kernel
theorem dL_moves_102 : decode cL_moves 102 = .ok (.getfield 154, 3) := by decide +kernel
theorem dL_moves_105 : decode cL_moves 105 = .ok (.iload 5, 2) := by decide +kernel
theorem dL_moves_107 : decode cL_moves 107 = .ok (.aaload, 1) := by decide +kernel
theorem dL_moves_108 : decode cL_moves 108 = .ok (.invokevirtual 258, 3) := by decide +kernel
theorem dL_moves_111 : decode cL_moves 111 = .ok (.if_icmp .ne 7, 3) := by decide +kernel
theorem dL_moves_114 : decode cL_moves 114 = .ok (.iconst 1, 1) := by decide +kernel
theorem dL_moves_115 : decode cL_moves 115 = .ok (.goto 4, 3) := by decide +kernel
theorem dL_moves_118 : decode cL_moves 118 = .ok (.iconst 0, 1) := by decide +kernel
theorem dL_moves_119 : decode cL_moves 119 = .ok (.ireturn, 1) := by decide +kernel
theorem dL_moves_120 : decode cL_moves 120 = .ok (.aload_n 1, 1) := by decide +kernel
theorem dL_moves_121 : decode cL_moves 121 = .ok (.iload_n 3, 1) := by decide +kernel
theorem dL_moves_122 : decode cL_moves 122 = .ok (.iload 5, 2) := by decide +kernel
theorem dL_moves_124 : decode cL_moves 124 = .ok (.iload 6, 2) := by decide +kernel
theorem dL_moves_126 : decode cL_moves 126 = .ok (.invokevirtual 230, 3) := by decide +kernel
theorem dL_moves_129 : decode cL_moves 129 = .ok (.ifCond .eq 24, 3) := by decide +kernel
theorem dL_moves_132 : decode cL_moves 132 = .ok (.aload_n 0, 1) := by decide +kernel
theorem dL_moves_133 : decode cL_moves 133 = .ok (.bipush 32, 2) := by decide +kernel
theorem dL_moves_135 : decode cL_moves 135 = .ok (.iload_n 3, 1) := by decide +kernel
theorem dL_moves_136 : decode cL_moves 136 = .ok (.iload 5, 2) := by decide +kernel
theorem dL_moves_138 : decode cL_moves 138 = .ok (.iload 6, 2) := by decide +kernel
theorem dL_moves_140 : decode cL_moves 140 = .ok (.invokestatic 226, 3) := by decide +kernel
theorem dL_moves_143 : decode cL_moves 143 = .ok (.iconst 3, 1) := by decide +kernel
theorem dL_moves_144 : decode cL_moves 144 = .ok (.if_icmp .ne 7, 3) := by decide +kernel
theorem dL_moves_147 : decode cL_moves 147 = .ok (.iconst 1, 1) := by decide +kernel
theorem dL_moves_148 : decode cL_moves 148 = .ok (.goto 4, 3) := by decide +kernel
theorem dL_moves_151 : decode cL_moves 151 = .ok (.iconst 0, 1) := by decide +kernel
theorem dL_moves_152 : decode cL_moves 152 = .ok (.ireturn, 1) := by decide +kernel
theorem dL_moves_153 : decode cL_moves 153 = .ok (.aload_n 1, 1) := by decide +kernel
theorem dL_moves_154 : decode cL_moves 154 = .ok (.iload_n 3, 1) := by decide +kernel
theorem dL_moves_155 : decode cL_moves 155 = .ok (.iload 5, 2) := by decide +kernel
theorem dL_moves_157 : decode cL_moves 157 = .ok (.iload 6, 2) := by decide +kernel
theorem dL_moves_159 : decode cL_moves 159 = .ok (.invokevirtual 261, 3) := by decide +kernel
theorem dL_moves_162 : decode cL_moves 162 = .ok (.astore 7, 2) := by decide +kernel
theorem dL_moves_164 : decode cL_moves 164 = .ok (.aload_n 1, 1) := by decide +kernel
theorem dL_moves_165 : decode cL_moves 165 = .ok (.aload 7, 2) := by decide +kernel
theorem dL_moves_167 : decode cL_moves 167 = .ok (.iconst 0, 1) := by decide +kernel
theorem dL_moves_168 : decode cL_moves 168 = .ok (.iaload, 1) := by decide +kernel
theorem dL_moves_169 : decode cL_moves 169 = .ok (.aload 7, 2) := by decide +kernel
theorem dL_moves_171 : decode cL_moves 171 = .ok (.iconst 1, 1) := by decide +kernel
theorem dL_moves_172 : decode cL_moves 172 = .ok (.iaload, 1) := by decide +kernel
theorem dL_moves_173 : decode cL_moves 173 = .ok (.invokevirtual 265, 3) := by decide +kernel
theorem dL_moves_176 : decode cL_moves 176 = .ok (.ifCond .eq 24, 3) := by decide +kernel
theorem dL_moves_179 : decode cL_moves 179 = .ok (.aload_n 0, 1) := by decide +kernel
theorem dL_moves_180 : decode cL_moves 180 = .ok (.bipush 32, 2) := by decide +kernel
theorem dL_moves_182 : decode cL_moves 182 = .ok (.iload_n 3, 1) := by decide +kernel
theorem dL_moves_183 : decode cL_moves 183 = .ok (.iload 5, 2) := by decide +kernel
theorem dL_moves_185 : decode cL_moves 185 = .ok (.iload 6, 2) := by decide +kernel
theorem dL_moves_187 : decode cL_moves 187 = .ok (.invokestatic 226, 3) := by decide +kernel
theorem dL_moves_190 : decode cL_moves 190 = .ok (.iconst 3, 1) := by decide +kernel
theorem dL_moves_191 : decode cL_moves 191 = .ok (.if_icmp .ne 7, 3) := by decide +kernel
theorem dL_moves_194 : decode cL_moves 194 = .ok (.iconst 1, 1) := by decide +kernel
theorem dL_moves_195 : decode cL_moves 195 = .ok (.goto 4, 3) := by decide +kernel
theorem dL_moves_198 : decode cL_moves 198 = .ok (.iconst 0, 1) := by decide +kernel
theorem dL_moves_199 : decode cL_moves 199 = .ok (.ireturn, 1) := by decide +kernel
theorem dL_moves_200 : decode cL_moves 200 = .ok (.aload_n 1, 1) := by decide +kernel
theorem dL_moves_201 : decode cL_moves 201 = .ok (.iload_n 3, 1) := by decide +kernel
theorem dL_moves_202 : decode cL_moves 202 = .ok (.iload 5, 2) := by decide +kernel
theorem dL_moves_204 : decode cL_moves 204 = .ok (.iload 6, 2) := by decide +kernel
theorem dL_moves_206 : decode cL_moves 206 = .ok (.invokevirtual 233, 3) := by decide +kernel
theorem dL_moves_209 : decode cL_moves 209 = .ok (.aload_n 1, 1) := by decide +kernel
theorem dL_moves_210 : decode cL_moves 210 = .ok (.aload 7, 2) := by decide +kernel
theorem dL_moves_212 : decode cL_moves 212 = .ok (.iconst 0, 1) := by decide +kernel
theorem dL_moves_213 : decode cL_moves 213 = .ok (.iaload, 1) := by decide +kernel
theorem dL_moves_214 : decode cL_moves 214 = .ok (.aload 7, 2) := by decide +kernel
theorem dL_moves_216 : decode cL_moves 216 = .ok (.iconst 1, 1) := by decide +kernel
theorem dL_moves_217 : decode cL_moves 217 = .ok (.iaload, 1) := by decide +kernel
theorem dL_moves_218 : decode cL_moves 218 = .ok (.iconst 0, 1) := by decide +kernel
theorem dL_moves_219 : decode cL_moves 219 = .ok (.invokevirtual 239, 3) := by decide +kernel
theorem dL_moves_222 : decode cL_moves 222 = .ok (.istore 8, 2) := by decide +kernel
theorem dL_moves_224 : decode cL_moves 224 = .ok (.aload_n 0, 1) := by decide +kernel
theorem dL_moves_225 : decode cL_moves 225 = .ok (.iload_n 3, 1) := by decide +kernel
theorem dL_moves_226 : decode cL_moves 226 = .ok (.iload 5, 2) := by decide +kernel
theorem dL_moves_228 : decode cL_moves 228 = .ok (.iload 6, 2) := by decide +kernel
theorem dL_moves_230 : decode cL_moves 230 = .ok (.invokevirtual 127, 3) := by decide +kernel
theorem dL_moves_233 : decode cL_moves 233 = .ok (.aload_n 1, 1) := by decide +kernel
theorem dL_moves_234 : decode cL_moves 234 = .ok (.getfield 236, 3) := by decide +kernel
theorem dL_moves_237 : decode cL_moves 237 = .ok (.iconst 1, 1) := by decide +kernel
theorem dL_moves_238 : decode cL_moves 238 = .ok (.isub, 1) := by decide +kernel
theorem dL_moves_239 : decode cL_moves 239 = .ok (.if_icmp .ne 7, 3) := by decide +kernel
theorem dL_moves_242 : decode cL_moves 242 = .ok (.iconst 1, 1) := by decide +kernel
theorem dL_moves_243 : decode cL_moves 243 = .ok (.goto 4, 3) := by decide +kernel
theorem dL_moves_246 : decode cL_moves 246 = .ok (.iconst 0, 1) := by decide +kernel
theorem dL_moves_247 : decode cL_moves 247 = .ok (.ireturn, 1) := by decide +kernel
theorem dL_rows_0 : decode cL_rows 0 = .ok (.iload 4, 2) := by decide +kernel
theorem dL_rows_2 : decode cL_rows 2 = .ok (.bipush 6, 2) := by decide +kernel
theorem dL_rows_4 : decode cL_rows 4 = .ok (.if_icmp .ne 69, 3) := by decide +kernel
theorem dL_rows_7 : decode cL_rows 7 = .ok (.iconst 0, 1) := by decide +kernel
theorem dL_rows_8 : decode cL_rows 8 = .ok (.istore 6, 2) := by decide +kernel
theorem dL_rows_10 : decode cL_rows 10 = .ok (.iload_n 2, 1) := by decide +kernel
theorem dL_rows_11 : decode cL_rows 11 = .ok (.istore 7, 2) := by decide +kernel
theorem dL_rows_13 : decode cL_rows 13 = .ok (.iload 7, 2) := by decide +kernel
theorem dL_rows_15 : decode cL_rows 15 = .ok (.iload_n 3, 1) := by decide +kernel
theorem dL_rows_16 : decode cL_rows 16 = .ok (.if_icmp .gt 40, 3) := by decide +kernel
theorem dL_rows_19 : decode cL_rows 19 = .ok (.aload_n 1, 1) := by decide +kernel
theorem dL_rows_20 : decode cL_rows 20 = .ok (.getfield 154, 3) := by decide +kernel
theorem dL_rows_23 : decode cL_rows 23 = .ok (.iload 7, 2) := by decide +kernel
theorem dL_rows_25 : decode cL_rows 25 = .ok (.aaload, 1) := by decide +kernel
theorem dL_rows_26 : decode cL_rows 26 = .ok (.getfield 190, 3) := by decide +kernel
theorem dL_rows_29 : decode cL_rows 29 = .ok (.ifnonnull 6, 3) := by decide +kernel
theorem dL_rows_32 : decode cL_rows 32 = .ok (.goto 18, 3) := by decide +kernel
theorem dL_rows_35 : decode cL_rows 35 = .ok (.aload_n 1, 1) := by decide +kernel
theorem dL_rows_36 : decode cL_rows 36 = .ok (.aload_n 1, 1) := by decide +kernel
theorem dL_rows_37 : decode cL_rows 37 = .ok (.getfield 154, 3) := by decide +kernel
theorem dL_rows_40 : decode cL_rows 40 = .ok (.iload 7, 2) := by decide +kernel
theorem dL_rows_42 : decode cL_rows 42 = .ok (.aaload, 1) := by decide +kernel
theorem dL_rows_43 : decode cL_rows 43 = .ok (.iconst 2, 1) := by decide +kernel
theorem dL_rows_44 : decode cL_rows 44 = .ok (.invokevirtual 251, 3) := by decide +kernel
theorem dL_rows_47 : decode cL_rows 47 = .ok (.iinc 6 1, 3) := by decide +kernel
theorem dL_rows_50 : decode cL_rows 50 = .ok (.iinc 7 1, 3) := by decide +kernel
theorem dL_rows_53 : decode cL_rows 53 = .ok (.goto (-40), 3) := by decide +kernel
theorem dL_rows_56 : decode cL_rows 56 = .ok (.aload_n 0, 1) := by decide +kernel
theorem dL_rows_57 : decode cL_rows 57 = .ok (.iload_n 2, 1) := by decide +kernel
theorem dL_rows_58 : decode cL_rows 58 = .ok (.iload_n 3, 1) := by decide +kernel
theorem dL_rows_59 : decode cL_rows 59 = .ok (.invokevirtual 97, 3) := by decide +kernel
theorem dL_rows_62 : decode cL_rows 62 = .ok (.iload 6, 2) := by decide +kernel
theorem dL_rows_64 : decode cL_rows 64 = .ok (.if_icmp .ne 7, 3) := by decide +kernel
theorem dL_rows_67 : decode cL_rows 67 = .ok (.iconst 1, 1) := by decide +kernel
theorem dL_rows_68 : decode cL_rows 68 = .ok (.goto 4, 3) := by decide +kernel
theorem dL_rows_71 : decode cL_rows 71 = .ok (.iconst 0, 1) := by decide +kernel
theorem dL_rows_72 : decode cL_rows 72 = .ok (.ireturn, 1) := by decide +kernel
theorem dL_rows_73 : decode cL_rows 73 = .ok (.aload_n 1, 1) := by decide +kernel
theorem dL_rows_74 : decode cL_rows 74 = .ok (.iload_n 2, 1) := by decide +kernel
theorem dL_rows_75 : decode cL_rows 75 = .ok (.iload_n 3, 1) := by decide +kernel
theorem dL_rows_76 : decode cL_rows 76 = .ok (.invokevirtual 265, 3) := by decide +kernel
theorem dL_rows_79 : decode cL_rows 79 = .ok (.ifCond .eq 23, 3) := by decide +kernel
theorem dL_rows_82 : decode cL_rows 82 = .ok (.aload_n 0, 1) := by decide +kernel
theorem dL_rows_83 : decode cL_rows 83 = .ok (.bipush 17, 2) := by decide +kernel
theorem dL_rows_85 : decode cL_rows 85 = .ok (.iload_n 2, 1) := by decide +kernel
theorem dL_rows_86 : decode cL_rows 86 = .ok (.iload_n 3, 1) := by decide +kernel
theorem dL_rows_87 : decode cL_rows 87 = .ok (.iload 5, 2) := by decide +kernel
theorem dL_rows_89 : decode cL_rows 89 = .ok (.invokestatic 226, 3) := by decide +kernel
theorem dL_rows_92 : decode cL_rows 92 = .ok (.iconst 3, 1) := by decide +kernel
theorem dL_rows_93 : decode cL_rows 93 = .ok (.if_icmp .ne 7, 3) := by decide +kernel
theorem dL_rows_96 : decode cL_rows 96 = .ok (.iconst 1, 1) := by decide +kernel
theorem dL_rows_97 : decode cL_rows 97 = .ok (.goto 4, 3) := by decide +kernel
theorem dL_rows_100 : decode cL_rows 100 = .ok (.iconst 0, 1) := by decide +kernel
theorem dL_rows_101 : decode cL_rows 101 = .ok (.ireturn, 1) := by decide +kernel
theorem dL_rows_102 : decode cL_rows 102 = .ok (.aload_n 0, 1) := by decide +kernel
theorem dL_rows_103 : decode cL_rows 103 = .ok (.iload_n 2, 1) := by decide +kernel
theorem dL_rows_104 : decode cL_rows 104 = .ok (.iload_n 3, 1) := by decide +kernel
theorem dL_rows_105 : decode cL_rows 105 = .ok (.iload 5, 2) := by decide +kernel
theorem dL_rows_107 : decode cL_rows 107 = .ok (.invokevirtual 88, 3) := by decide +kernel
theorem dL_rows_110 : decode cL_rows 110 = .ok (.aload_n 1, 1) := by decide +kernel
theorem dL_rows_111 : decode cL_rows 111 = .ok (.iload_n 2, 1) := by decide +kernel
theorem dL_rows_112 : decode cL_rows 112 = .ok (.iload_n 3, 1) := by decide +kernel
theorem dL_rows_113 : decode cL_rows 113 = .ok (.iload 5, 2) := by decide +kernel
theorem dL_rows_115 : decode cL_rows 115 = .ok (.invokevirtual 239, 3) := by decide +kernel
theorem dL_rows_118 : decode cL_rows 118 = .ok (.if_icmp .ne 7, 3) := by decide +kernel
theorem dL_rows_121 : decode cL_rows 121 = .ok (.iconst 1, 1) := by decide +kernel
theorem dL_rows_122 : decode cL_rows 122 = .ok (.goto 4, 3) := by decide +kernel
theorem dL_rows_125 : decode cL_rows 125 = .ok (.iconst 0, 1) := by decide +kernel
theorem dL_rows_126 : decode cL_rows 126 = .ok (.ireturn, 1) := by decide +kernel
theorem dL_debts_0 : decode cL_debts 0 = .ok (.iconst 0, 1) := by decide +kernel
theorem dL_debts_1 : decode cL_debts 1 = .ok (.istore_n 2, 1) := by decide +kernel
theorem dL_debts_2 : decode cL_debts 2 = .ok (.iconst 0, 1) := by decide +kernel
theorem dL_debts_3 : decode cL_debts 3 = .ok (.istore_n 3, 1) := by decide +kernel
theorem dL_debts_4 : decode cL_debts 4 = .ok (.iconst 0, 1) := by decide +kernel
theorem dL_debts_5 : decode cL_debts 5 = .ok (.istore 4, 2) := by decide +kernel
theorem dL_debts_7 : decode cL_debts 7 = .ok (.new 268, 3) := by decide +kernel
theorem dL_debts_10 : decode cL_debts 10 = .ok (.dup, 1) := by decide +kernel
theorem dL_debts_11 : decode cL_debts 11 = .ok (.invokespecial 270, 3) := by decide +kernel
theorem dL_debts_14 : decode cL_debts 14 = .ok (.astore 5, 2) := by decide +kernel
theorem dL_debts_16 : decode cL_debts 16 = .ok (.aconst_null, 1) := by decide +kernel
theorem dL_debts_17 : decode cL_debts 17 = .ok (.astore 6, 2) := by decide +kernel
theorem dL_debts_19 : decode cL_debts 19 = .ok (.iconst 0, 1) := by decide +kernel
theorem dL_debts_20 : decode cL_debts 20 = .ok (.istore 7, 2) := by decide +kernel
theorem dL_debts_22 : decode cL_debts 22 = .ok (.iload 7, 2) := by decide +kernel
theorem dL_debts_24 : decode cL_debts 24 = .ok (.aload_n 1, 1) := by decide +kernel
theorem dL_debts_25 : decode cL_debts 25 = .ok (.getfield 154, 3) := by decide +kernel
theorem dL_debts_28 : decode cL_debts 28 = .ok (.arraylength, 1) := by decide +kernel
theorem dL_debts_29 : decode cL_debts 29 = .ok (.if_icmp .ge 418, 3) := by decide +kernel
theorem dL_debts_32 : decode cL_debts 32 = .ok (.aload_n 1, 1) := by decide +kernel
theorem dL_debts_33 : decode cL_debts 33 = .ok (.getfield 154, 3) := by decide +kernel
theorem dL_debts_36 : decode cL_debts 36 = .ok (.iload 7, 2) := by decide +kernel
theorem dL_debts_38 : decode cL_debts 38 = .ok (.aaload, 1) := by decide +kernel
theorem dL_debts_39 : decode cL_debts 39 = .ok (.astore 8, 2) := by decide +kernel
theorem dL_debts_41 : decode cL_debts 41 = .ok (.iconst 0, 1) := by decide +kernel
theorem dL_debts_42 : decode cL_debts 42 = .ok (.istore 9, 2) := by decide +kernel
theorem dL_debts_44 : decode cL_debts 44 = .ok (.iconst 0, 1) := by decide +kernel
theorem dL_debts_45 : decode cL_debts 45 = .ok (.istore 10, 2) := by decide +kernel
theorem dL_debts_47 : decode cL_debts 47 = .ok (.aload_n 1, 1) := by decide +kernel
theorem dL_debts_48 : decode cL_debts 48 = .ok (.getfield 154, 3) := by decide +kernel
theorem dL_debts_51 : decode cL_debts 51 = .ok (.astore 11, 2) := by decide +kernel
theorem dL_debts_53 : decode cL_debts 53 = .ok (.aload 11, 2) := by decide +kernel
theorem dL_debts_55 : decode cL_debts 55 = .ok (.arraylength, 1) := by decide +kernel
theorem dL_debts_56 : decode cL_debts 56 = .ok (.istore 12, 2) := by decide +kernel
theorem dL_debts_58 : decode cL_debts 58 = .ok (.iconst 0, 1) := by decide +kernel
theorem dL_debts_59 : decode cL_debts 59 = .ok (.istore 13, 2) := by decide +kernel
theorem dL_debts_61 : decode cL_debts 61 = .ok (.iload 13, 2) := by decide +kernel
theorem dL_debts_63 : decode cL_debts 63 = .ok (.iload 12, 2) := by decide +kernel
theorem dL_debts_65 : decode cL_debts 65 = .ok (.if_icmp .ge 93, 3) := by decide +kernel
theorem dL_debts_68 : decode cL_debts 68 = .ok (.aload 11, 2) := by decide +kernel
theorem dL_debts_70 : decode cL_debts 70 = .ok (.iload 13, 2) := by decide +kernel
theorem dL_debts_72 : decode cL_debts 72 = .ok (.aaload, 1) := by decide +kernel
theorem dL_debts_73 : decode cL_debts 73 = .ok (.astore 14, 2) := by decide +kernel
theorem dL_debts_75 : decode cL_debts 75 = .ok (.iload 9, 2) := by decide +kernel
theorem dL_debts_77 : decode cL_debts 77 = .ok (.aload 14, 2) := by decide +kernel
theorem dL_debts_79 : decode cL_debts 79 = .ok (.getfield 190, 3) := by decide +kernel
theorem dL_debts_82 : decode cL_debts 82 = .ok (.aload 8, 2) := by decide +kernel
theorem dL_debts_84 : decode cL_debts 84 = .ok (.if_acmp .ne 7, 3) := by decide +kernel
theorem dL_debts_87 : decode cL_debts 87 = .ok (.iconst 1, 1) := by decide +kernel
theorem dL_debts_88 : decode cL_debts 88 = .ok (.goto 4, 3) := by decide +kernel
theorem dL_debts_91 : decode cL_debts 91 = .ok (.iconst 0, 1) := by decide +kernel
theorem dL_debts_92 : decode cL_debts 92 = .ok (.iadd, 1) := by decide +kernel
theorem dL_debts_93 : decode cL_debts 93 = .ok (.istore 9, 2) := by decide +kernel
theorem dL_debts_95 : decode cL_debts 95 = .ok (.iconst 0, 1) := by decide +kernel
theorem dL_debts_96 : decode cL_debts 96 = .ok (.istore 15, 2) := by decide +kernel
theorem dL_debts_98 : decode cL_debts 98 = .ok (.aload 14, 2) := by decide +kernel
theorem dL_debts_100 : decode cL_debts 100 = .ok (.getfield 190, 3) := by decide +kernel
theorem dL_debts_103 : decode cL_debts 103 = .ok (.astore 16, 2) := by decide +kernel
theorem dL_debts_105 : decode cL_debts 105 = .ok (.aload 16, 2) := by decide +kernel
theorem dL_debts_107 : decode cL_debts 107 = .ok (.ifnull 30, 3) := by decide +kernel
theorem dL_debts_110 : decode cL_debts 110 = .ok (.iload 15, 2) := by decide +kernel
theorem dL_debts_112 : decode cL_debts 112 = .ok (.aload 16, 2) := by decide +kernel
theorem dL_debts_114 : decode cL_debts 114 = .ok (.aload 8, 2) := by decide +kernel
theorem dL_debts_116 : decode cL_debts 116 = .ok (.if_acmp .ne 7, 3) := by decide +kernel
theorem dL_debts_119 : decode cL_debts 119 = .ok (.iconst 1, 1) := by decide +kernel
theorem dL_debts_120 : decode cL_debts 120 = .ok (.goto 4, 3) := by decide +kernel
theorem dL_debts_123 : decode cL_debts 123 = .ok (.iconst 0, 1) := by decide +kernel
theorem dL_debts_124 : decode cL_debts 124 = .ok (.ior, 1) := by decide +kernel
theorem dL_debts_125 : decode cL_debts 125 = .ok (.istore 15, 2) := by decide +kernel
theorem dL_debts_127 : decode cL_debts 127 = .ok (.aload 16, 2) := by decide +kernel
theorem dL_debts_129 : decode cL_debts 129 = .ok (.getfield 190, 3) := by decide +kernel
theorem dL_debts_132 : decode cL_debts 132 = .ok (.astore 16, 2) := by decide +kernel
theorem dL_debts_134 : decode cL_debts 134 = .ok (.goto (-29), 3) := by decide +kernel
theorem dL_debts_137 : decode cL_debts 137 = .ok (.iload 10, 2) := by decide +kernel
theorem dL_debts_139 : decode cL_debts 139 = .ok (.iload 15, 2) := by decide +kernel
theorem dL_debts_141 : decode cL_debts 141 = .ok (.ifCond .eq 7, 3) := by decide +kernel
theorem dL_debts_144 : decode cL_debts 144 = .ok (.iconst 1, 1) := by decide +kernel
theorem dL_debts_145 : decode cL_debts 145 = .ok (.goto 4, 3) := by decide +kernel
theorem dL_debts_148 : decode cL_debts 148 = .ok (.iconst 0, 1) := by decide +kernel
theorem dL_debts_149 : decode cL_debts 149 = .ok (.iadd, 1) := by decide +kernel
theorem dL_debts_150 : decode cL_debts 150 = .ok (.istore 10, 2) := by decide +kernel
theorem dL_debts_152 : decode cL_debts 152 = .ok (.iinc 13 1, 3) := by decide +kernel
theorem dL_debts_155 : decode cL_debts 155 = .ok (.goto (-94), 3) := by decide +kernel
theorem dL_debts_158 : decode cL_debts 158 = .ok (.iload_n 3, 1) := by decide +kernel
theorem dL_debts_159 : decode cL_debts 159 = .ok (.aload 8, 2) := by decide +kernel
theorem dL_debts_161 : decode cL_debts 161 = .ok (.getfield 183, 3) := by decide +kernel
theorem dL_debts_164 : decode cL_debts 164 = .ok (.aload 8, 2) := by decide +kernel
theorem dL_debts_166 : decode cL_debts 166 = .ok (.invokevirtual 185, 3) := by decide +kernel
theorem dL_debts_169 : decode cL_debts 169 = .ok (.if_icmp .ne 7, 3) := by decide +kernel
theorem dL_debts_172 : decode cL_debts 172 = .ok (.iconst 0, 1) := by decide +kernel
theorem dL_debts_173 : decode cL_debts 173 = .ok (.goto 4, 3) := by decide +kernel
theorem dL_debts_176 : decode cL_debts 176 = .ok (.iconst 1, 1) := by decide +kernel
theorem dL_debts_177 : decode cL_debts 177 = .ok (.iadd, 1) := by decide +kernel
theorem dL_debts_178 : decode cL_debts 178 = .ok (.istore_n 3, 1) := by decide +kernel
theorem dL_debts_179 : decode cL_debts 179 = .ok (.iload 4, 2) := by decide +kernel
theorem dL_debts_181 : decode cL_debts 181 = .ok (.iload 9, 2) := by decide +kernel
theorem dL_debts_183 : decode cL_debts 183 = .ok (.ifCond .le 7, 3) := by decide +kernel
theorem dL_debts_186 : decode cL_debts 186 = .ok (.iconst 1, 1) := by decide +kernel
theorem dL_debts_187 : decode cL_debts 187 = .ok (.goto 4, 3) := by decide +kernel
theorem dL_debts_190 : decode cL_debts 190 = .ok (.iconst 0, 1) := by decide +kernel
theorem dL_debts_191 : decode cL_debts 191 = .ok (.iadd, 1) := by decide +kernel
theorem dL_debts_192 : decode cL_debts 192 = .ok (.istore 4, 2) := by decide +kernel
theorem dL_debts_194 : decode cL_debts 194 = .ok (.aload 8, 2) := by decide +kernel
theorem dL_debts_196 : decode cL_debts 196 = .ok (.getfield 190, 3) := by decide +kernel
theorem dL_debts_199 : decode cL_debts 199 = .ok (.ifnull 25, 3) := by decide +kernel
theorem dL_debts_202 : decode cL_debts 202 = .ok (.aload 6, 2) := by decide +kernel
theorem dL_debts_204 : decode cL_debts 204 = .ok (.ifnull 16, 3) := by decide +kernel
theorem dL_debts_207 : decode cL_debts 207 = .ok (.aload 8, 2) := by decide +kernel
theorem dL_debts_209 : decode cL_debts 209 = .ok (.invokevirtual 209, 3) := by decide +kernel
theorem dL_debts_212 : decode cL_debts 212 = .ok (.aload 6, 2) := by decide +kernel
theorem dL_debts_214 : decode cL_debts 214 = .ok (.invokevirtual 209, 3) := by decide +kernel
theorem dL_debts_217 : decode cL_debts 217 = .ok (.if_icmp .le 7, 3) := by decide +kernel
theorem dL_debts_220 : decode cL_debts 220 = .ok (.aload 8, 2) := by decide +kernel
theorem dL_debts_222 : decode cL_debts 222 = .ok (.astore 6, 2) := by decide +kernel
theorem dL_debts_224 : decode cL_debts 224 = .ok (.aload_n 0, 1) := by decide +kernel
theorem dL_debts_225 : decode cL_debts 225 = .ok (.iload 7, 2) := by decide +kernel
theorem dL_debts_227 : decode cL_debts 227 = .ok (.iconst 0, 1) := by decide +kernel
theorem dL_debts_228 : decode cL_debts 228 = .ok (.invokevirtual 39, 3) := by decide +kernel
theorem dL_debts_231 : decode cL_debts 231 = .ok (.iload 9, 2) := by decide +kernel
theorem dL_debts_233 : decode cL_debts 233 = .ok (.if_icmp .ne 15, 3) := by decide +kernel
theorem dL_debts_236 : decode cL_debts 236 = .ok (.aload_n 0, 1) := by decide +kernel
theorem dL_debts_237 : decode cL_debts 237 = .ok (.iload 7, 2) := by decide +kernel
theorem dL_debts_239 : decode cL_debts 239 = .ok (.iconst 1, 1) := by decide +kernel
theorem dL_debts_240 : decode cL_debts 240 = .ok (.invokevirtual 39, 3) := by decide +kernel
theorem dL_debts_243 : decode cL_debts 243 = .ok (.iload 10, 2) := by decide +kernel
theorem dL_debts_245 : decode cL_debts 245 = .ok (.if_icmp .eq 5, 3) := by decide +kernel
theorem dL_debts_248 : decode cL_debts 248 = .ok (.iconst 0, 1) := by decide +kernel
theorem dL_debts_249 : decode cL_debts 249 = .ok (.ireturn, 1) := by decide +kernel
theorem dL_debts_250 : decode cL_debts 250 = .ok (.aload 8, 2) := by decide +kernel
theorem dL_debts_252 : decode cL_debts 252 = .ok (.getfield 190, 3) := by decide +kernel
theorem dL_debts_255 : decode cL_debts 255 = .ok (.ifnull 186, 3) := by decide +kernel
theorem dL_debts_258 : decode cL_debts 258 = .ok (.iload 7, 2) := by decide +kernel
theorem dL_debts_260 : decode cL_debts 260 = .ok (.ifCond .le 23, 3) := by decide +kernel
theorem dL_debts_263 : decode cL_debts 263 = .ok (.aload_n 1, 1) := by decide +kernel
theorem dL_debts_264 : decode cL_debts 264 = .ok (.getfield 154, 3) := by decide +kernel
theorem dL_debts_267 : decode cL_debts 267 = .ok (.iload 7, 2) := by decide +kernel
theorem dL_debts_269 : decode cL_debts 269 = .ok (.iconst 1, 1) := by decide +kernel
theorem dL_debts_270 : decode cL_debts 270 = .ok (.isub, 1) := by decide +kernel
theorem dL_debts_271 : decode cL_debts 271 = .ok (.aaload, 1) := by decide +kernel
theorem dL_debts_272 : decode cL_debts 272 = .ok (.aload 8, 2) := by decide +kernel
theorem dL_debts_274 : decode cL_debts 274 = .ok (.invokestatic 271, 3) := by decide +kernel
theorem dL_debts_277 : decode cL_debts 277 = .ok (.ifCond .eq 6, 3) := by decide +kernel
theorem dL_debts_280 : decode cL_debts 280 = .ok (.goto 161, 3) := by decide +kernel
theorem dL_debts_283 : decode cL_debts 283 = .ok (.iload 7, 2) := by decide +kernel
theorem dL_debts_285 : decode cL_debts 285 = .ok (.istore 11, 2) := by decide +kernel
theorem dL_debts_287 : decode cL_debts 287 = .ok (.iload 11, 2) := by decide +kernel
theorem dL_debts_289 : decode cL_debts 289 = .ok (.iconst 1, 1) := by decide +kernel
theorem dL_debts_290 : decode cL_debts 290 = .ok (.iadd, 1) := by decide +kernel
theorem dL_debts_291 : decode cL_debts 291 = .ok (.aload_n 1, 1) := by decide +kernel
theorem dL_debts_292 : decode cL_debts 292 = .ok (.getfield 154, 3) := by decide +kernel
theorem dL_debts_295 : decode cL_debts 295 = .ok (.arraylength, 1) := by decide +kernel
theorem dL_debts_296 : decode cL_debts 296 = .ok (.if_icmp .ge 31, 3) := by decide +kernel
theorem dL_debts_299 : decode cL_debts 299 = .ok (.aload_n 1, 1) := by decide +kernel
theorem dL_debts_300 : decode cL_debts 300 = .ok (.getfield 154, 3) := by decide +kernel
theorem dL_debts_303 : decode cL_debts 303 = .ok (.iload 11, 2) := by decide +kernel
theorem dL_debts_305 : decode cL_debts 305 = .ok (.aaload, 1) := by decide +kernel
theorem dL_debts_306 : decode cL_debts 306 = .ok (.aload_n 1, 1) := by decide +kernel
theorem dL_debts_307 : decode cL_debts 307 = .ok (.getfield 154, 3) := by decide +kernel
theorem dL_debts_310 : decode cL_debts 310 = .ok (.iload 11, 2) := by decide +kernel
theorem dL_debts_312 : decode cL_debts 312 = .ok (.iconst 1, 1) := by decide +kernel
theorem dL_debts_313 : decode cL_debts 313 = .ok (.iadd, 1) := by decide +kernel
theorem dL_debts_314 : decode cL_debts 314 = .ok (.aaload, 1) := by decide +kernel
theorem dL_debts_315 : decode cL_debts 315 = .ok (.invokestatic 271, 3) := by decide +kernel
theorem dL_debts_318 : decode cL_debts 318 = .ok (.ifCond .eq 9, 3) := by decide +kernel
theorem dL_debts_321 : decode cL_debts 321 = .ok (.iinc 11 1, 3) := by decide +kernel
theorem dL_debts_324 : decode cL_debts 324 = .ok (.goto (-37), 3) := by decide +kernel
theorem dL_debts_327 : decode cL_debts 327 = .ok (.aload_n 0, 1) := by decide +kernel
theorem dL_debts_328 : decode cL_debts 328 = .ok (.iload_n 2, 1) := by decide +kernel
theorem dL_debts_329 : decode cL_debts 329 = .ok (.iconst 0, 1) := by decide +kernel
theorem dL_debts_330 : decode cL_debts 330 = .ok (.invokevirtual 43, 3) := by decide +kernel
theorem dL_debts_333 : decode cL_debts 333 = .ok (.iload 7, 2) := by decide +kernel
theorem dL_debts_335 : decode cL_debts 335 = .ok (.if_icmp .ne 50, 3) := by decide +kernel
theorem dL_debts_338 : decode cL_debts 338 = .ok (.aload_n 0, 1) := by decide +kernel
theorem dL_debts_339 : decode cL_debts 339 = .ok (.iload_n 2, 1) := by decide +kernel
theorem dL_debts_340 : decode cL_debts 340 = .ok (.iconst 1, 1) := by decide +kernel
theorem dL_debts_341 : decode cL_debts 341 = .ok (.invokevirtual 43, 3) := by decide +kernel
theorem dL_debts_344 : decode cL_debts 344 = .ok (.aload 8, 2) := by decide +kernel
theorem dL_debts_346 : decode cL_debts 346 = .ok (.getfield 190, 3) := by decide +kernel
theorem dL_debts_349 : decode cL_debts 349 = .ok (.getfield 175, 3) := by decide +kernel
theorem dL_debts_352 : decode cL_debts 352 = .ok (.if_icmp .ne 33, 3) := by decide +kernel
theorem dL_debts_355 : decode cL_debts 355 = .ok (.aload_n 0, 1) := by decide +kernel
theorem dL_debts_356 : decode cL_debts 356 = .ok (.iload_n 2, 1) := by decide +kernel
theorem dL_debts_357 : decode cL_debts 357 = .ok (.iconst 2, 1) := by decide +kernel
theorem dL_debts_358 : decode cL_debts 358 = .ok (.invokevirtual 43, 3) := by decide +kernel
theorem dL_debts_361 : decode cL_debts 361 = .ok (.iload 11, 2) := by decide +kernel
theorem dL_debts_363 : decode cL_debts 363 = .ok (.iload 7, 2) := by decide +kernel
theorem dL_debts_365 : decode cL_debts 365 = .ok (.isub, 1) := by decide +kernel
theorem dL_debts_366 : decode cL_debts 366 = .ok (.iconst 1, 1) := by decide +kernel
theorem dL_debts_367 : decode cL_debts 367 = .ok (.iadd, 1) := by decide +kernel
theorem dL_debts_368 : decode cL_debts 368 = .ok (.if_icmp .ne 17, 3) := by decide +kernel
theorem dL_debts_371 : decode cL_debts 371 = .ok (.aload_n 0, 1) := by decide +kernel
theorem dL_debts_372 : decode cL_debts 372 = .ok (.iload_n 2, 1) := by decide +kernel
theorem dL_debts_373 : decode cL_debts 373 = .ok (.iconst 3, 1) := by decide +kernel
theorem dL_debts_374 : decode cL_debts 374 = .ok (.invokevirtual 43, 3) := by decide +kernel
theorem dL_debts_377 : decode cL_debts 377 = .ok (.aload 8, 2) := by decide +kernel
theorem dL_debts_379 : decode cL_debts 379 = .ok (.getfield 196, 3) := by decide +kernel
theorem dL_debts_382 : decode cL_debts 382 = .ok (.if_icmp .eq 5, 3) := by decide +kernel
theorem dL_debts_385 : decode cL_debts 385 = .ok (.iconst 0, 1) := by decide +kernel
theorem dL_debts_386 : decode cL_debts 386 = .ok (.ireturn, 1) := by decide +kernel
theorem dL_debts_387 : decode cL_debts 387 = .ok (.iload_n 2, 1) := by decide +kernel
theorem dL_debts_388 : decode cL_debts 388 = .ok (.ifCond .le 11, 3) := by decide +kernel
theorem dL_debts_391 : decode cL_debts 391 = .ok (.aload 5, 2) := by decide +kernel
theorem dL_debts_393 : decode cL_debts 393 = .ok (.bipush 44, 2) := by decide +kernel
theorem dL_debts_395 : decode cL_debts 395 = .ok (.invokevirtual 275, 3) := by decide +kernel
theorem dL_debts_398 : decode cL_debts 398 = .ok (.pop, 1) := by decide +kernel
theorem dL_debts_399 : decode cL_debts 399 = .ok (.aload 5, 2) := by decide +kernel
theorem dL_debts_401 : decode cL_debts 401 = .ok (.iload 7, 2) := by decide +kernel
theorem dL_debts_403 : decode cL_debts 403 = .ok (.invokevirtual 278, 3) := by decide +kernel
theorem dL_debts_406 : decode cL_debts 406 = .ok (.bipush 120, 2) := by decide +kernel
theorem dL_debts_408 : decode cL_debts 408 = .ok (.invokevirtual 275, 3) := by decide +kernel
theorem dL_debts_411 : decode cL_debts 411 = .ok (.iload 11, 2) := by decide +kernel
theorem dL_debts_413 : decode cL_debts 413 = .ok (.iload 7, 2) := by decide +kernel
theorem dL_debts_415 : decode cL_debts 415 = .ok (.isub, 1) := by decide +kernel
theorem dL_debts_416 : decode cL_debts 416 = .ok (.iconst 1, 1) := by decide +kernel
theorem dL_debts_417 : decode cL_debts 417 = .ok (.iadd, 1) := by decide +kernel
theorem dL_debts_418 : decode cL_debts 418 = .ok (.invokevirtual 278, 3) := by decide +kernel
theorem dL_debts_421 : decode cL_debts 421 = .ok (.bipush 60, 2) := by decide +kernel
