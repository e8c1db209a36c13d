theorem d_W_359 : decode code 359 = .ok (.iload 4, 2) := by decide +kernel
theorem d_W_361 : decode code 361 = .ok (.iconst 3, 1) := by decide +kernel
theorem d_W_362 : decode code 362 = .ok (.iadd, 1) := by decide +kernel
theorem d_W_363 : decode code 363 = .ok (.iaload, 1) := by decide +kernel
theorem d_W_364 : decode code 364 = .ok (.aload_n 3, 1) := by decide +kernel
theorem d_W_365 : decode code 365 = .ok (.invokestatic 80, 3) := by decide +kernel
theorem d_W_368 : decode code 368 = .ok (.istore 5, 2) := by decide +kernel
theorem d_W_370 : decode code 370 = .ok (.aload_n 2, 1) := by decide +kernel
theorem d_W_371 : decode code 371 = .ok (.aload_n 0, 1) := by decide +kernel
theorem d_W_372 : decode code 372 = .ok (.iload 4, 2) := by decide +kernel
theorem d_W_374 : decode code 374 = .ok (.iconst 1, 1) := by decide +kernel
theorem d_W_375 : decode code 375 = .ok (.iadd, 1) := by decide +kernel
theorem d_W_376 : decode code 376 = .ok (.iaload, 1) := by decide +kernel
theorem d_W_377 : decode code 377 = .ok (.aload_n 0, 1) := by decide +kernel
theorem d_W_378 : decode code 378 = .ok (.iload 4, 2) := by decide +kernel
theorem d_W_380 : decode code 380 = .ok (.iconst 2, 1) := by decide +kernel
theorem d_W_381 : decode code 381 = .ok (.iadd, 1) := by decide +kernel
theorem d_W_382 : decode code 382 = .ok (.iaload, 1) := by decide +kernel
theorem d_W_383 : decode code 383 = .ok (.aload_n 0, 1) := by decide +kernel
theorem d_W_384 : decode code 384 = .ok (.iload 4, 2) := by decide +kernel
theorem d_W_386 : decode code 386 = .ok (.iconst 3, 1) := by decide +kernel
theorem d_W_387 : decode code 387 = .ok (.iadd, 1) := by decide +kernel
theorem d_W_388 : decode code 388 = .ok (.iaload, 1) := by decide +kernel
theorem d_W_389 : decode code 389 = .ok (.invokevirtual 82, 3) := by decide +kernel
theorem d_W_392 : decode code 392 = .ok (.istore 6, 2) := by decide +kernel
theorem d_W_394 : decode code 394 = .ok (.aload_n 2, 1) := by decide +kernel
theorem d_W_395 : decode code 395 = .ok (.invokevirtual 69, 3) := by decide +kernel
theorem d_W_398 : decode code 398 = .ok (.iload 5, 2) := by decide +kernel
theorem d_W_400 : decode code 400 = .ok (.if_icmp .eq 5, 3) := by decide +kernel
theorem d_W_403 : decode code 403 = .ok (.iconst 0, 1) := by decide +kernel
theorem d_W_404 : decode code 404 = .ok (.ireturn, 1) := by decide +kernel
theorem d_W_405 : decode code 405 = .ok (.iload 5, 2) := by decide +kernel
theorem d_W_407 : decode code 407 = .ok (.ifCond .ne 15, 3) := by decide +kernel
theorem d_W_410 : decode code 410 = .ok (.aload_n 3, 1) := by decide +kernel
theorem d_W_411 : decode code 411 = .ok (.iconst 0, 1) := by decide +kernel
theorem d_W_412 : decode code 412 = .ok (.laload, 1) := by decide +kernel
theorem d_W_413 : decode code 413 = .ok (.iload 6, 2) := by decide +kernel
theorem d_W_415 : decode code 415 = .ok (.i2l, 1) := by decide +kernel
theorem d_W_416 : decode code 416 = .ok (.lcmp, 1) := by decide +kernel
theorem d_W_417 : decode code 417 = .ok (.ifCond .eq 5, 3) := by decide +kernel
theorem d_W_420 : decode code 420 = .ok (.iconst 0, 1) := by decide +kernel
theorem d_W_421 : decode code 421 = .ok (.ireturn, 1) := by decide +kernel
theorem d_W_422 : decode code 422 = .ok (.goto 512, 3) := by decide +kernel
theorem d_W_425 : decode code 425 = .ok (.aload_n 1, 1) := by decide +kernel
theorem d_W_426 : decode code 426 = .ok (.aload_n 0, 1) := by decide +kernel
theorem d_W_427 : decode code 427 = .ok (.iload 4, 2) := by decide +kernel
theorem d_W_429 : decode code 429 = .ok (.iconst 1, 1) := by decide +kernel
theorem d_W_430 : decode code 430 = .ok (.iadd, 1) := by decide +kernel
theorem d_W_431 : decode code 431 = .ok (.iaload, 1) := by decide +kernel
theorem d_W_432 : decode code 432 = .ok (.aload_n 0, 1) := by decide +kernel
theorem d_W_433 : decode code 433 = .ok (.iload 4, 2) := by decide +kernel
theorem d_W_435 : decode code 435 = .ok (.iconst 2, 1) := by decide +kernel
theorem d_W_436 : decode code 436 = .ok (.iadd, 1) := by decide +kernel
theorem d_W_437 : decode code 437 = .ok (.iaload, 1) := by decide +kernel
theorem d_W_438 : decode code 438 = .ok (.aload_n 0, 1) := by decide +kernel
theorem d_W_439 : decode code 439 = .ok (.iload 4, 2) := by decide +kernel
theorem d_W_441 : decode code 441 = .ok (.iconst 3, 1) := by decide +kernel
theorem d_W_442 : decode code 442 = .ok (.iadd, 1) := by decide +kernel
theorem d_W_443 : decode code 443 = .ok (.iaload, 1) := by decide +kernel
theorem d_W_444 : decode code 444 = .ok (.aload_n 0, 1) := by decide +kernel
theorem d_W_445 : decode code 445 = .ok (.iload 4, 2) := by decide +kernel
theorem d_W_447 : decode code 447 = .ok (.iconst 4, 1) := by decide +kernel
theorem d_W_448 : decode code 448 = .ok (.iadd, 1) := by decide +kernel
theorem d_W_449 : decode code 449 = .ok (.iaload, 1) := by decide +kernel
theorem d_W_450 : decode code 450 = .ok (.ifCond .eq 7, 3) := by decide +kernel
theorem d_W_453 : decode code 453 = .ok (.iconst 1, 1) := by decide +kernel
theorem d_W_454 : decode code 454 = .ok (.goto 4, 3) := by decide +kernel
theorem d_W_457 : decode code 457 = .ok (.iconst 0, 1) := by decide +kernel
theorem d_W_458 : decode code 458 = .ok (.aload_n 3, 1) := by decide +kernel
theorem d_W_459 : decode code 459 = .ok (.invokestatic 83, 3) := by decide +kernel
theorem d_W_462 : decode code 462 = .ok (.istore 5, 2) := by decide +kernel
theorem d_W_464 : decode code 464 = .ok (.aload_n 2, 1) := by decide +kernel
theorem d_W_465 : decode code 465 = .ok (.aload_n 0, 1) := by decide +kernel
theorem d_W_466 : decode code 466 = .ok (.iload 4, 2) := by decide +kernel
theorem d_W_468 : decode code 468 = .ok (.iconst 1, 1) := by decide +kernel
theorem d_W_469 : decode code 469 = .ok (.iadd, 1) := by decide +kernel
theorem d_W_470 : decode code 470 = .ok (.iaload, 1) := by decide +kernel
theorem d_W_471 : decode code 471 = .ok (.aload_n 0, 1) := by decide +kernel
theorem d_W_472 : decode code 472 = .ok (.iload 4, 2) := by decide +kernel
theorem d_W_474 : decode code 474 = .ok (.iconst 2, 1) := by decide +kernel
theorem d_W_475 : decode code 475 = .ok (.iadd, 1) := by decide +kernel
theorem d_W_476 : decode code 476 = .ok (.iaload, 1) := by decide +kernel
theorem d_W_477 : decode code 477 = .ok (.aload_n 0, 1) := by decide +kernel
theorem d_W_478 : decode code 478 = .ok (.iload 4, 2) := by decide +kernel
theorem d_W_480 : decode code 480 = .ok (.iconst 3, 1) := by decide +kernel
theorem d_W_481 : decode code 481 = .ok (.iadd, 1) := by decide +kernel
theorem d_W_482 : decode code 482 = .ok (.iaload, 1) := by decide +kernel
theorem d_W_483 : decode code 483 = .ok (.aload_n 0, 1) := by decide +kernel
theorem d_W_484 : decode code 484 = .ok (.iload 4, 2) := by decide +kernel
theorem d_W_486 : decode code 486 = .ok (.iconst 4, 1) := by decide +kernel
theorem d_W_487 : decode code 487 = .ok (.iadd, 1) := by decide +kernel
theorem d_W_488 : decode code 488 = .ok (.iaload, 1) := by decide +kernel
theorem d_W_489 : decode code 489 = .ok (.ifCond .eq 7, 3) := by decide +kernel
theorem d_W_492 : decode code 492 = .ok (.iconst 1, 1) := by decide +kernel
theorem d_W_493 : decode code 493 = .ok (.goto 4, 3) := by decide +kernel
theorem d_W_496 : decode code 496 = .ok (.iconst 0, 1) := by decide +kernel
theorem d_W_497 : decode code 497 = .ok (.invokevirtual 86, 3) := by decide +kernel
theorem d_W_500 : decode code 500 = .ok (.istore 6, 2) := by decide +kernel
theorem d_W_502 : decode code 502 = .ok (.aload_n 2, 1) := by decide +kernel
theorem d_W_503 : decode code 503 = .ok (.invokevirtual 69, 3) := by decide +kernel
theorem d_W_506 : decode code 506 = .ok (.iload 5, 2) := by decide +kernel
theorem d_W_508 : decode code 508 = .ok (.if_icmp .eq 5, 3) := by decide +kernel
theorem d_W_511 : decode code 511 = .ok (.iconst 0, 1) := by decide +kernel
theorem d_W_512 : decode code 512 = .ok (.ireturn, 1) := by decide +kernel
theorem d_W_513 : decode code 513 = .ok (.iload 5, 2) := by decide +kernel
theorem d_W_515 : decode code 515 = .ok (.ifCond .ne 15, 3) := by decide +kernel
theorem d_W_518 : decode code 518 = .ok (.aload_n 3, 1) := by decide +kernel
theorem d_W_519 : decode code 519 = .ok (.iconst 0, 1) := by decide +kernel
theorem d_W_520 : decode code 520 = .ok (.laload, 1) := by decide +kernel
theorem d_W_521 : decode code 521 = .ok (.iload 6, 2) := by decide +kernel
theorem d_W_523 : decode code 523 = .ok (.i2l, 1) := by decide +kernel
theorem d_W_524 : decode code 524 = .ok (.lcmp, 1) := by decide +kernel
theorem d_W_525 : decode code 525 = .ok (.ifCond .eq 5, 3) := by decide +kernel
theorem d_W_528 : decode code 528 = .ok (.iconst 0, 1) := by decide +kernel
theorem d_W_529 : decode code 529 = .ok (.ireturn, 1) := by decide +kernel
theorem d_W_530 : decode code 530 = .ok (.goto 404, 3) := by decide +kernel
theorem d_W_533 : decode code 533 = .ok (.aload_n 1, 1) := by decide +kernel
theorem d_W_534 : decode code 534 = .ok (.invokestatic 87, 3) := by decide +kernel
theorem d_W_537 : decode code 537 = .ok (.istore 5, 2) := by decide +kernel
theorem d_W_539 : decode code 539 = .ok (.aload_n 2, 1) := by decide +kernel
theorem d_W_540 : decode code 540 = .ok (.invokevirtual 90, 3) := by decide +kernel
theorem d_W_543 : decode code 543 = .ok (.aload_n 2, 1) := by decide +kernel
theorem d_W_544 : decode code 544 = .ok (.invokevirtual 69, 3) := by decide +kernel
theorem d_W_547 : decode code 547 = .ok (.iload 5, 2) := by decide +kernel
theorem d_W_549 : decode code 549 = .ok (.if_icmp .eq 5, 3) := by decide +kernel
theorem d_W_552 : decode code 552 = .ok (.iconst 0, 1) := by decide +kernel
theorem d_W_553 : decode code 553 = .ok (.ireturn, 1) := by decide +kernel
theorem d_W_554 : decode code 554 = .ok (.goto 380, 3) := by decide +kernel
theorem d_W_557 : decode code 557 = .ok (.aload_n 1, 1) := by decide +kernel
theorem d_W_558 : decode code 558 = .ok (.invokevirtual 91, 3) := by decide +kernel
theorem d_W_561 : decode code 561 = .ok (.aload_n 2, 1) := by decide +kernel
theorem d_W_562 : decode code 562 = .ok (.invokevirtual 94, 3) := by decide +kernel
theorem d_W_565 : decode code 565 = .ok (.if_icmp .eq 369, 3) := by decide +kernel
theorem d_W_568 : decode code 568 = .ok (.iconst 0, 1) := by decide +kernel
theorem d_W_569 : decode code 569 = .ok (.ireturn, 1) := by decide +kernel
theorem d_W_570 : decode code 570 = .ok (.aload_n 1, 1) := by decide +kernel
theorem d_W_571 : decode code 571 = .ok (.aload_n 0, 1) := by decide +kernel
theorem d_W_572 : decode code 572 = .ok (.iload 4, 2) := by decide +kernel
theorem d_W_574 : decode code 574 = .ok (.iconst 1, 1) := by decide +kernel
theorem d_W_575 : decode code 575 = .ok (.iadd, 1) := by decide +kernel
theorem d_W_576 : decode code 576 = .ok (.iaload, 1) := by decide +kernel
theorem d_W_577 : decode code 577 = .ok (.aload_n 3, 1) := by decide +kernel
theorem d_W_578 : decode code 578 = .ok (.invokestatic 95, 3) := by decide +kernel
theorem d_W_581 : decode code 581 = .ok (.istore 5, 2) := by decide +kernel
theorem d_W_583 : decode code 583 = .ok (.aload_n 2, 1) := by decide +kernel
theorem d_W_584 : decode code 584 = .ok (.aload_n 0, 1) := by decide +kernel
theorem d_W_585 : decode code 585 = .ok (.iload 4, 2) := by decide +kernel
theorem d_W_587 : decode code 587 = .ok (.iconst 1, 1) := by decide +kernel
theorem d_W_588 : decode code 588 = .ok (.iadd, 1) := by decide +kernel
theorem d_W_589 : decode code 589 = .ok (.iaload, 1) := by decide +kernel
theorem d_W_590 : decode code 590 = .ok (.invokevirtual 97, 3) := by decide +kernel
theorem d_W_593 : decode code 593 = .ok (.istore 6, 2) := by decide +kernel
theorem d_W_595 : decode code 595 = .ok (.aload_n 2, 1) := by decide +kernel
theorem d_W_596 : decode code 596 = .ok (.invokevirtual 69, 3) := by decide +kernel
theorem d_W_599 : decode code 599 = .ok (.iload 5, 2) := by decide +kernel
theorem d_W_601 : decode code 601 = .ok (.if_icmp .eq 5, 3) := by decide +kernel
theorem d_W_604 : decode code 604 = .ok (.iconst 0, 1) := by decide +kernel
theorem d_W_605 : decode code 605 = .ok (.ireturn, 1) := by decide +kernel
theorem d_W_606 : decode code 606 = .ok (.iload 5, 2) := by decide +kernel
theorem d_W_608 : decode code 608 = .ok (.ifCond .ne 15, 3) := by decide +kernel
theorem d_W_611 : decode code 611 = .ok (.aload_n 3, 1) := by decide +kernel
theorem d_W_612 : decode code 612 = .ok (.iconst 0, 1) := by decide +kernel
theorem d_W_613 : decode code 613 = .ok (.laload, 1) := by decide +kernel
theorem d_W_614 : decode code 614 = .ok (.iload 6, 2) := by decide +kernel
theorem d_W_616 : decode code 616 = .ok (.i2l, 1) := by decide +kernel
theorem d_W_617 : decode code 617 = .ok (.lcmp, 1) := by decide +kernel
theorem d_W_618 : decode code 618 = .ok (.ifCond .eq 5, 3) := by decide +kernel
theorem d_W_621 : decode code 621 = .ok (.iconst 0, 1) := by decide +kernel
theorem d_W_622 : decode code 622 = .ok (.ireturn, 1) := by decide +kernel
theorem d_W_623 : decode code 623 = .ok (.goto 311, 3) := by decide +kernel
theorem d_W_626 : decode code 626 = .ok (.aload_n 1, 1) := by decide +kernel
theorem d_W_627 : decode code 627 = .ok (.aload_n 0, 1) := by decide +kernel
theorem d_W_628 : decode code 628 = .ok (.iload 4, 2) := by decide +kernel
theorem d_W_630 : decode code 630 = .ok (.iconst 1, 1) := by decide +kernel
theorem d_W_631 : decode code 631 = .ok (.iadd, 1) := by decide +kernel
theorem d_W_632 : decode code 632 = .ok (.iaload, 1) := by decide +kernel
theorem d_W_633 : decode code 633 = .ok (.aload_n 3, 1) := by decide +kernel
theorem d_W_634 : decode code 634 = .ok (.invokestatic 98, 3) := by decide +kernel
theorem d_W_637 : decode code 637 = .ok (.istore 5, 2) := by decide +kernel
theorem d_W_639 : decode code 639 = .ok (.aload_n 2, 1) := by decide +kernel
theorem d_W_640 : decode code 640 = .ok (.aload_n 0, 1) := by decide +kernel
theorem d_W_641 : decode code 641 = .ok (.iload 4, 2) := by decide +kernel
theorem d_W_643 : decode code 643 = .ok (.iconst 1, 1) := by decide +kernel
theorem d_W_644 : decode code 644 = .ok (.iadd, 1) := by decide +kernel
theorem d_W_645 : decode code 645 = .ok (.iaload, 1) := by decide +kernel
theorem d_W_646 : decode code 646 = .ok (.invokevirtual 100, 3) := by decide +kernel
theorem d_W_649 : decode code 649 = .ok (.istore 6, 2) := by decide +kernel
theorem d_W_651 : decode code 651 = .ok (.aload_n 2, 1) := by decide +kernel
theorem d_W_652 : decode code 652 = .ok (.invokevirtual 69, 3) := by decide +kernel
theorem d_W_655 : decode code 655 = .ok (.iload 5, 2) := by decide +kernel
theorem d_W_657 : decode code 657 = .ok (.if_icmp .eq 5, 3) := by decide +kernel
theorem d_W_660 : decode code 660 = .ok (.iconst 0, 1) := by decide +kernel
theorem d_W_661 : decode code 661 = .ok (.ireturn, 1) := by decide +kernel
