/-! THE LAW: its bytes, read -/
theorem d_Law_law_388 : decode M_Law_law.2.1 388 = .ok (.iconst 3, 1) := by decide +kernel
theorem d_Law_law_389 : decode M_Law_law.2.1 389 = .ok (.iadd, 1) := by decide +kernel
theorem d_Law_law_390 : decode M_Law_law.2.1 390 = .ok (.iaload, 1) := by decide +kernel
theorem d_Law_law_391 : decode M_Law_law.2.1 391 = .ok (.invokevirtual 36, 3) := by decide +kernel
theorem d_Law_law_394 : decode M_Law_law.2.1 394 = .ok (.aload_n 2, 1) := by decide +kernel
theorem d_Law_law_395 : decode M_Law_law.2.1 395 = .ok (.aload_n 0, 1) := by decide +kernel
theorem d_Law_law_396 : decode M_Law_law.2.1 396 = .ok (.iload_n 3, 1) := by decide +kernel
theorem d_Law_law_397 : decode M_Law_law.2.1 397 = .ok (.iconst 1, 1) := by decide +kernel
theorem d_Law_law_398 : decode M_Law_law.2.1 398 = .ok (.iadd, 1) := by decide +kernel
theorem d_Law_law_399 : decode M_Law_law.2.1 399 = .ok (.iaload, 1) := by decide +kernel
theorem d_Law_law_400 : decode M_Law_law.2.1 400 = .ok (.aload_n 0, 1) := by decide +kernel
theorem d_Law_law_401 : decode M_Law_law.2.1 401 = .ok (.iload_n 3, 1) := by decide +kernel
theorem d_Law_law_402 : decode M_Law_law.2.1 402 = .ok (.iconst 2, 1) := by decide +kernel
theorem d_Law_law_403 : decode M_Law_law.2.1 403 = .ok (.iadd, 1) := by decide +kernel
theorem d_Law_law_404 : decode M_Law_law.2.1 404 = .ok (.iaload, 1) := by decide +kernel
theorem d_Law_law_405 : decode M_Law_law.2.1 405 = .ok (.aload_n 0, 1) := by decide +kernel
theorem d_Law_law_406 : decode M_Law_law.2.1 406 = .ok (.iload_n 3, 1) := by decide +kernel
theorem d_Law_law_407 : decode M_Law_law.2.1 407 = .ok (.iconst 3, 1) := by decide +kernel
theorem d_Law_law_408 : decode M_Law_law.2.1 408 = .ok (.iadd, 1) := by decide +kernel
theorem d_Law_law_409 : decode M_Law_law.2.1 409 = .ok (.iaload, 1) := by decide +kernel
theorem d_Law_law_410 : decode M_Law_law.2.1 410 = .ok (.invokevirtual 39, 3) := by decide +kernel
theorem d_Law_law_413 : decode M_Law_law.2.1 413 = .ok (.if_icmp .eq 889, 3) := by decide +kernel
theorem d_Law_law_416 : decode M_Law_law.2.1 416 = .ok (.iconst 0, 1) := by decide +kernel
theorem d_Law_law_417 : decode M_Law_law.2.1 417 = .ok (.ireturn, 1) := by decide +kernel
theorem d_Law_law_418 : decode M_Law_law.2.1 418 = .ok (.aload_n 1, 1) := by decide +kernel
theorem d_Law_law_419 : decode M_Law_law.2.1 419 = .ok (.aload_n 0, 1) := by decide +kernel
theorem d_Law_law_420 : decode M_Law_law.2.1 420 = .ok (.iload_n 3, 1) := by decide +kernel
theorem d_Law_law_421 : decode M_Law_law.2.1 421 = .ok (.iconst 1, 1) := by decide +kernel
theorem d_Law_law_422 : decode M_Law_law.2.1 422 = .ok (.iadd, 1) := by decide +kernel
theorem d_Law_law_423 : decode M_Law_law.2.1 423 = .ok (.iaload, 1) := by decide +kernel
theorem d_Law_law_424 : decode M_Law_law.2.1 424 = .ok (.aload_n 0, 1) := by decide +kernel
theorem d_Law_law_425 : decode M_Law_law.2.1 425 = .ok (.iload_n 3, 1) := by decide +kernel
theorem d_Law_law_426 : decode M_Law_law.2.1 426 = .ok (.iconst 2, 1) := by decide +kernel
theorem d_Law_law_427 : decode M_Law_law.2.1 427 = .ok (.iadd, 1) := by decide +kernel
theorem d_Law_law_428 : decode M_Law_law.2.1 428 = .ok (.iaload, 1) := by decide +kernel
theorem d_Law_law_429 : decode M_Law_law.2.1 429 = .ok (.aload_n 0, 1) := by decide +kernel
theorem d_Law_law_430 : decode M_Law_law.2.1 430 = .ok (.iload_n 3, 1) := by decide +kernel
theorem d_Law_law_431 : decode M_Law_law.2.1 431 = .ok (.iconst 3, 1) := by decide +kernel
theorem d_Law_law_432 : decode M_Law_law.2.1 432 = .ok (.iadd, 1) := by decide +kernel
theorem d_Law_law_433 : decode M_Law_law.2.1 433 = .ok (.iaload, 1) := by decide +kernel
theorem d_Law_law_434 : decode M_Law_law.2.1 434 = .ok (.invokevirtual 40, 3) := by decide +kernel
theorem d_Law_law_437 : decode M_Law_law.2.1 437 = .ok (.aload_n 2, 1) := by decide +kernel
theorem d_Law_law_438 : decode M_Law_law.2.1 438 = .ok (.aload_n 0, 1) := by decide +kernel
theorem d_Law_law_439 : decode M_Law_law.2.1 439 = .ok (.iload_n 3, 1) := by decide +kernel
theorem d_Law_law_440 : decode M_Law_law.2.1 440 = .ok (.iconst 1, 1) := by decide +kernel
theorem d_Law_law_441 : decode M_Law_law.2.1 441 = .ok (.iadd, 1) := by decide +kernel
theorem d_Law_law_442 : decode M_Law_law.2.1 442 = .ok (.iaload, 1) := by decide +kernel
theorem d_Law_law_443 : decode M_Law_law.2.1 443 = .ok (.aload_n 0, 1) := by decide +kernel
theorem d_Law_law_444 : decode M_Law_law.2.1 444 = .ok (.iload_n 3, 1) := by decide +kernel
theorem d_Law_law_445 : decode M_Law_law.2.1 445 = .ok (.iconst 2, 1) := by decide +kernel
theorem d_Law_law_446 : decode M_Law_law.2.1 446 = .ok (.iadd, 1) := by decide +kernel
theorem d_Law_law_447 : decode M_Law_law.2.1 447 = .ok (.iaload, 1) := by decide +kernel
theorem d_Law_law_448 : decode M_Law_law.2.1 448 = .ok (.aload_n 0, 1) := by decide +kernel
theorem d_Law_law_449 : decode M_Law_law.2.1 449 = .ok (.iload_n 3, 1) := by decide +kernel
theorem d_Law_law_450 : decode M_Law_law.2.1 450 = .ok (.iconst 3, 1) := by decide +kernel
theorem d_Law_law_451 : decode M_Law_law.2.1 451 = .ok (.iadd, 1) := by decide +kernel
theorem d_Law_law_452 : decode M_Law_law.2.1 452 = .ok (.iaload, 1) := by decide +kernel
theorem d_Law_law_453 : decode M_Law_law.2.1 453 = .ok (.invokevirtual 43, 3) := by decide +kernel
theorem d_Law_law_456 : decode M_Law_law.2.1 456 = .ok (.if_icmp .eq 846, 3) := by decide +kernel
theorem d_Law_law_459 : decode M_Law_law.2.1 459 = .ok (.iconst 0, 1) := by decide +kernel
theorem d_Law_law_460 : decode M_Law_law.2.1 460 = .ok (.ireturn, 1) := by decide +kernel
theorem d_Law_law_461 : decode M_Law_law.2.1 461 = .ok (.aload_n 1, 1) := by decide +kernel
theorem d_Law_law_462 : decode M_Law_law.2.1 462 = .ok (.aload_n 0, 1) := by decide +kernel
theorem d_Law_law_463 : decode M_Law_law.2.1 463 = .ok (.iload_n 3, 1) := by decide +kernel
theorem d_Law_law_464 : decode M_Law_law.2.1 464 = .ok (.iconst 1, 1) := by decide +kernel
theorem d_Law_law_465 : decode M_Law_law.2.1 465 = .ok (.iadd, 1) := by decide +kernel
theorem d_Law_law_466 : decode M_Law_law.2.1 466 = .ok (.iaload, 1) := by decide +kernel
theorem d_Law_law_467 : decode M_Law_law.2.1 467 = .ok (.aload_n 0, 1) := by decide +kernel
theorem d_Law_law_468 : decode M_Law_law.2.1 468 = .ok (.iload_n 3, 1) := by decide +kernel
theorem d_Law_law_469 : decode M_Law_law.2.1 469 = .ok (.iconst 2, 1) := by decide +kernel
theorem d_Law_law_470 : decode M_Law_law.2.1 470 = .ok (.iadd, 1) := by decide +kernel
theorem d_Law_law_471 : decode M_Law_law.2.1 471 = .ok (.iaload, 1) := by decide +kernel
theorem d_Law_law_472 : decode M_Law_law.2.1 472 = .ok (.aload_n 0, 1) := by decide +kernel
theorem d_Law_law_473 : decode M_Law_law.2.1 473 = .ok (.iload_n 3, 1) := by decide +kernel
theorem d_Law_law_474 : decode M_Law_law.2.1 474 = .ok (.iconst 3, 1) := by decide +kernel
theorem d_Law_law_475 : decode M_Law_law.2.1 475 = .ok (.iadd, 1) := by decide +kernel
theorem d_Law_law_476 : decode M_Law_law.2.1 476 = .ok (.iaload, 1) := by decide +kernel
theorem d_Law_law_477 : decode M_Law_law.2.1 477 = .ok (.aload_n 0, 1) := by decide +kernel
theorem d_Law_law_478 : decode M_Law_law.2.1 478 = .ok (.iload_n 3, 1) := by decide +kernel
theorem d_Law_law_479 : decode M_Law_law.2.1 479 = .ok (.iconst 4, 1) := by decide +kernel
theorem d_Law_law_480 : decode M_Law_law.2.1 480 = .ok (.iadd, 1) := by decide +kernel
theorem d_Law_law_481 : decode M_Law_law.2.1 481 = .ok (.iaload, 1) := by decide +kernel
theorem d_Law_law_482 : decode M_Law_law.2.1 482 = .ok (.invokevirtual 44, 3) := by decide +kernel
theorem d_Law_law_485 : decode M_Law_law.2.1 485 = .ok (.aload_n 2, 1) := by decide +kernel
theorem d_Law_law_486 : decode M_Law_law.2.1 486 = .ok (.aload_n 0, 1) := by decide +kernel
theorem d_Law_law_487 : decode M_Law_law.2.1 487 = .ok (.iload_n 3, 1) := by decide +kernel
theorem d_Law_law_488 : decode M_Law_law.2.1 488 = .ok (.iconst 1, 1) := by decide +kernel
theorem d_Law_law_489 : decode M_Law_law.2.1 489 = .ok (.iadd, 1) := by decide +kernel
theorem d_Law_law_490 : decode M_Law_law.2.1 490 = .ok (.iaload, 1) := by decide +kernel
theorem d_Law_law_491 : decode M_Law_law.2.1 491 = .ok (.aload_n 0, 1) := by decide +kernel
theorem d_Law_law_492 : decode M_Law_law.2.1 492 = .ok (.iload_n 3, 1) := by decide +kernel
theorem d_Law_law_493 : decode M_Law_law.2.1 493 = .ok (.iconst 2, 1) := by decide +kernel
theorem d_Law_law_494 : decode M_Law_law.2.1 494 = .ok (.iadd, 1) := by decide +kernel
theorem d_Law_law_495 : decode M_Law_law.2.1 495 = .ok (.iaload, 1) := by decide +kernel
theorem d_Law_law_496 : decode M_Law_law.2.1 496 = .ok (.aload_n 0, 1) := by decide +kernel
theorem d_Law_law_497 : decode M_Law_law.2.1 497 = .ok (.iload_n 3, 1) := by decide +kernel
theorem d_Law_law_498 : decode M_Law_law.2.1 498 = .ok (.iconst 3, 1) := by decide +kernel
theorem d_Law_law_499 : decode M_Law_law.2.1 499 = .ok (.iadd, 1) := by decide +kernel
theorem d_Law_law_500 : decode M_Law_law.2.1 500 = .ok (.iaload, 1) := by decide +kernel
theorem d_Law_law_501 : decode M_Law_law.2.1 501 = .ok (.aload_n 0, 1) := by decide +kernel
theorem d_Law_law_502 : decode M_Law_law.2.1 502 = .ok (.iload_n 3, 1) := by decide +kernel
theorem d_Law_law_503 : decode M_Law_law.2.1 503 = .ok (.iconst 4, 1) := by decide +kernel
theorem d_Law_law_504 : decode M_Law_law.2.1 504 = .ok (.iadd, 1) := by decide +kernel
theorem d_Law_law_505 : decode M_Law_law.2.1 505 = .ok (.iaload, 1) := by decide +kernel
theorem d_Law_law_506 : decode M_Law_law.2.1 506 = .ok (.invokevirtual 47, 3) := by decide +kernel
theorem d_Law_law_509 : decode M_Law_law.2.1 509 = .ok (.if_icmp .eq 793, 3) := by decide +kernel
theorem d_Law_law_512 : decode M_Law_law.2.1 512 = .ok (.iconst 0, 1) := by decide +kernel
theorem d_Law_law_513 : decode M_Law_law.2.1 513 = .ok (.ireturn, 1) := by decide +kernel
theorem d_Law_law_514 : decode M_Law_law.2.1 514 = .ok (.aload_n 1, 1) := by decide +kernel
theorem d_Law_law_515 : decode M_Law_law.2.1 515 = .ok (.aload_n 0, 1) := by decide +kernel
theorem d_Law_law_516 : decode M_Law_law.2.1 516 = .ok (.iload_n 3, 1) := by decide +kernel
theorem d_Law_law_517 : decode M_Law_law.2.1 517 = .ok (.iconst 1, 1) := by decide +kernel
theorem d_Law_law_518 : decode M_Law_law.2.1 518 = .ok (.iadd, 1) := by decide +kernel
theorem d_Law_law_519 : decode M_Law_law.2.1 519 = .ok (.iaload, 1) := by decide +kernel
theorem d_Law_law_520 : decode M_Law_law.2.1 520 = .ok (.aload_n 0, 1) := by decide +kernel
theorem d_Law_law_521 : decode M_Law_law.2.1 521 = .ok (.iload_n 3, 1) := by decide +kernel
theorem d_Law_law_522 : decode M_Law_law.2.1 522 = .ok (.iconst 2, 1) := by decide +kernel
theorem d_Law_law_523 : decode M_Law_law.2.1 523 = .ok (.iadd, 1) := by decide +kernel
theorem d_Law_law_524 : decode M_Law_law.2.1 524 = .ok (.iaload, 1) := by decide +kernel
theorem d_Law_law_525 : decode M_Law_law.2.1 525 = .ok (.aload_n 0, 1) := by decide +kernel
theorem d_Law_law_526 : decode M_Law_law.2.1 526 = .ok (.iload_n 3, 1) := by decide +kernel
theorem d_Law_law_527 : decode M_Law_law.2.1 527 = .ok (.iconst 3, 1) := by decide +kernel
theorem d_Law_law_528 : decode M_Law_law.2.1 528 = .ok (.iadd, 1) := by decide +kernel
theorem d_Law_law_529 : decode M_Law_law.2.1 529 = .ok (.iaload, 1) := by decide +kernel
theorem d_Law_law_530 : decode M_Law_law.2.1 530 = .ok (.invokevirtual 48, 3) := by decide +kernel
theorem d_Law_law_533 : decode M_Law_law.2.1 533 = .ok (.aload_n 2, 1) := by decide +kernel
theorem d_Law_law_534 : decode M_Law_law.2.1 534 = .ok (.aload_n 0, 1) := by decide +kernel
theorem d_Law_law_535 : decode M_Law_law.2.1 535 = .ok (.iload_n 3, 1) := by decide +kernel
theorem d_Law_law_536 : decode M_Law_law.2.1 536 = .ok (.iconst 1, 1) := by decide +kernel
theorem d_Law_law_537 : decode M_Law_law.2.1 537 = .ok (.iadd, 1) := by decide +kernel
theorem d_Law_law_538 : decode M_Law_law.2.1 538 = .ok (.iaload, 1) := by decide +kernel
theorem d_Law_law_539 : decode M_Law_law.2.1 539 = .ok (.aload_n 0, 1) := by decide +kernel
theorem d_Law_law_540 : decode M_Law_law.2.1 540 = .ok (.iload_n 3, 1) := by decide +kernel
theorem d_Law_law_541 : decode M_Law_law.2.1 541 = .ok (.iconst 2, 1) := by decide +kernel
theorem d_Law_law_542 : decode M_Law_law.2.1 542 = .ok (.iadd, 1) := by decide +kernel
theorem d_Law_law_543 : decode M_Law_law.2.1 543 = .ok (.iaload, 1) := by decide +kernel
theorem d_Law_law_544 : decode M_Law_law.2.1 544 = .ok (.aload_n 0, 1) := by decide +kernel
theorem d_Law_law_545 : decode M_Law_law.2.1 545 = .ok (.iload_n 3, 1) := by decide +kernel
theorem d_Law_law_546 : decode M_Law_law.2.1 546 = .ok (.iconst 3, 1) := by decide +kernel
theorem d_Law_law_547 : decode M_Law_law.2.1 547 = .ok (.iadd, 1) := by decide +kernel
theorem d_Law_law_548 : decode M_Law_law.2.1 548 = .ok (.iaload, 1) := by decide +kernel
theorem d_Law_law_549 : decode M_Law_law.2.1 549 = .ok (.invokevirtual 51, 3) := by decide +kernel
theorem d_Law_law_552 : decode M_Law_law.2.1 552 = .ok (.if_icmp .eq 750, 3) := by decide +kernel
theorem d_Law_law_555 : decode M_Law_law.2.1 555 = .ok (.iconst 0, 1) := by decide +kernel
theorem d_Law_law_556 : decode M_Law_law.2.1 556 = .ok (.ireturn, 1) := by decide +kernel
theorem d_Law_law_557 : decode M_Law_law.2.1 557 = .ok (.aload_n 1, 1) := by decide +kernel
theorem d_Law_law_558 : decode M_Law_law.2.1 558 = .ok (.aload_n 0, 1) := by decide +kernel
theorem d_Law_law_559 : decode M_Law_law.2.1 559 = .ok (.iload_n 3, 1) := by decide +kernel
theorem d_Law_law_560 : decode M_Law_law.2.1 560 = .ok (.iconst 1, 1) := by decide +kernel
theorem d_Law_law_561 : decode M_Law_law.2.1 561 = .ok (.iadd, 1) := by decide +kernel
theorem d_Law_law_562 : decode M_Law_law.2.1 562 = .ok (.iaload, 1) := by decide +kernel
theorem d_Law_law_563 : decode M_Law_law.2.1 563 = .ok (.invokevirtual 52, 3) := by decide +kernel
theorem d_Law_law_566 : decode M_Law_law.2.1 566 = .ok (.aload_n 2, 1) := by decide +kernel
theorem d_Law_law_567 : decode M_Law_law.2.1 567 = .ok (.aload_n 0, 1) := by decide +kernel
theorem d_Law_law_568 : decode M_Law_law.2.1 568 = .ok (.iload_n 3, 1) := by decide +kernel
theorem d_Law_law_569 : decode M_Law_law.2.1 569 = .ok (.iconst 1, 1) := by decide +kernel
theorem d_Law_law_570 : decode M_Law_law.2.1 570 = .ok (.iadd, 1) := by decide +kernel
theorem d_Law_law_571 : decode M_Law_law.2.1 571 = .ok (.iaload, 1) := by decide +kernel
theorem d_Law_law_572 : decode M_Law_law.2.1 572 = .ok (.invokevirtual 56, 3) := by decide +kernel
theorem d_Law_law_575 : decode M_Law_law.2.1 575 = .ok (.if_icmp .eq 727, 3) := by decide +kernel
theorem d_Law_law_578 : decode M_Law_law.2.1 578 = .ok (.iconst 0, 1) := by decide +kernel
theorem d_Law_law_579 : decode M_Law_law.2.1 579 = .ok (.ireturn, 1) := by decide +kernel
theorem d_Law_law_580 : decode M_Law_law.2.1 580 = .ok (.aload_n 1, 1) := by decide +kernel
theorem d_Law_law_581 : decode M_Law_law.2.1 581 = .ok (.invokevirtual 57, 3) := by decide +kernel
theorem d_Law_law_584 : decode M_Law_law.2.1 584 = .ok (.aload_n 2, 1) := by decide +kernel
theorem d_Law_law_585 : decode M_Law_law.2.1 585 = .ok (.invokevirtual 61, 3) := by decide +kernel
theorem d_Law_law_588 : decode M_Law_law.2.1 588 = .ok (.if_icmp .eq 714, 3) := by decide +kernel
theorem d_Law_law_591 : decode M_Law_law.2.1 591 = .ok (.iconst 0, 1) := by decide +kernel
theorem d_Law_law_592 : decode M_Law_law.2.1 592 = .ok (.ireturn, 1) := by decide +kernel
theorem d_Law_law_593 : decode M_Law_law.2.1 593 = .ok (.aload_n 1, 1) := by decide +kernel
theorem d_Law_law_594 : decode M_Law_law.2.1 594 = .ok (.aload_n 0, 1) := by decide +kernel
theorem d_Law_law_595 : decode M_Law_law.2.1 595 = .ok (.iload_n 3, 1) := by decide +kernel
theorem d_Law_law_596 : decode M_Law_law.2.1 596 = .ok (.iconst 1, 1) := by decide +kernel
theorem d_Law_law_597 : decode M_Law_law.2.1 597 = .ok (.iadd, 1) := by decide +kernel
theorem d_Law_law_598 : decode M_Law_law.2.1 598 = .ok (.iaload, 1) := by decide +kernel
theorem d_Law_law_599 : decode M_Law_law.2.1 599 = .ok (.invokevirtual 62, 3) := by decide +kernel
theorem d_Law_law_602 : decode M_Law_law.2.1 602 = .ok (.aload_n 2, 1) := by decide +kernel
theorem d_Law_law_603 : decode M_Law_law.2.1 603 = .ok (.aload_n 0, 1) := by decide +kernel
theorem d_Law_law_604 : decode M_Law_law.2.1 604 = .ok (.iload_n 3, 1) := by decide +kernel
theorem d_Law_law_605 : decode M_Law_law.2.1 605 = .ok (.iconst 1, 1) := by decide +kernel
theorem d_Law_law_606 : decode M_Law_law.2.1 606 = .ok (.iadd, 1) := by decide +kernel
theorem d_Law_law_607 : decode M_Law_law.2.1 607 = .ok (.iaload, 1) := by decide +kernel
theorem d_Law_law_608 : decode M_Law_law.2.1 608 = .ok (.invokevirtual 65, 3) := by decide +kernel
theorem d_Law_law_611 : decode M_Law_law.2.1 611 = .ok (.if_icmp .eq 691, 3) := by decide +kernel
theorem d_Law_law_614 : decode M_Law_law.2.1 614 = .ok (.iconst 0, 1) := by decide +kernel
theorem d_Law_law_615 : decode M_Law_law.2.1 615 = .ok (.ireturn, 1) := by decide +kernel
theorem d_Law_law_616 : decode M_Law_law.2.1 616 = .ok (.aload_n 1, 1) := by decide +kernel
theorem d_Law_law_617 : decode M_Law_law.2.1 617 = .ok (.aload_n 0, 1) := by decide +kernel
theorem d_Law_law_618 : decode M_Law_law.2.1 618 = .ok (.iload_n 3, 1) := by decide +kernel
theorem d_Law_law_619 : decode M_Law_law.2.1 619 = .ok (.iconst 1, 1) := by decide +kernel
theorem d_Law_law_620 : decode M_Law_law.2.1 620 = .ok (.iadd, 1) := by decide +kernel
theorem d_Law_law_621 : decode M_Law_law.2.1 621 = .ok (.iaload, 1) := by decide +kernel
theorem d_Law_law_622 : decode M_Law_law.2.1 622 = .ok (.invokevirtual 66, 3) := by decide +kernel
theorem d_Law_law_625 : decode M_Law_law.2.1 625 = .ok (.aload_n 2, 1) := by decide +kernel
theorem d_Law_law_626 : decode M_Law_law.2.1 626 = .ok (.aload_n 0, 1) := by decide +kernel
theorem d_Law_law_627 : decode M_Law_law.2.1 627 = .ok (.iload_n 3, 1) := by decide +kernel
theorem d_Law_law_628 : decode M_Law_law.2.1 628 = .ok (.iconst 1, 1) := by decide +kernel
theorem d_Law_law_629 : decode M_Law_law.2.1 629 = .ok (.iadd, 1) := by decide +kernel
theorem d_Law_law_630 : decode M_Law_law.2.1 630 = .ok (.iaload, 1) := by decide +kernel
theorem d_Law_law_631 : decode M_Law_law.2.1 631 = .ok (.invokevirtual 69, 3) := by decide +kernel
