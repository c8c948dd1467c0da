theorem dd_L_law_412 : decode code 412 = .ok (.aload_n 3, 1) := by decide +kernel
theorem dd_L_law_413 : decode code 413 = .ok (.iconst 0, 1) := by decide +kernel
theorem dd_L_law_414 : decode code 414 = .ok (.laload, 1) := by decide +kernel
theorem dd_L_law_415 : decode code 415 = .ok (.iload 6, 2) := by decide +kernel
theorem dd_L_law_417 : decode code 417 = .ok (.i2l, 1) := by decide +kernel
theorem dd_L_law_418 : decode code 418 = .ok (.lcmp, 1) := by decide +kernel
theorem dd_L_law_419 : decode code 419 = .ok (.ifCond .eq 5, 3) := by decide +kernel
theorem dd_L_law_422 : decode code 422 = .ok (.iconst 0, 1) := by decide +kernel
theorem dd_L_law_423 : decode code 423 = .ok (.ireturn, 1) := by decide +kernel
theorem dd_L_law_424 : decode code 424 = .ok (.goto 1222, 3) := by decide +kernel
theorem dd_L_law_427 : decode code 427 = .ok (.aload_n 1, 1) := by decide +kernel
theorem dd_L_law_428 : decode code 428 = .ok (.aload_n 0, 1) := by decide +kernel
theorem dd_L_law_429 : decode code 429 = .ok (.iload 4, 2) := by decide +kernel
theorem dd_L_law_431 : decode code 431 = .ok (.iconst 1, 1) := by decide +kernel
theorem dd_L_law_432 : decode code 432 = .ok (.iadd, 1) := by decide +kernel
theorem dd_L_law_433 : decode code 433 = .ok (.iaload, 1) := by decide +kernel
theorem dd_L_law_434 : decode code 434 = .ok (.aload_n 0, 1) := by decide +kernel
theorem dd_L_law_435 : decode code 435 = .ok (.iload 4, 2) := by decide +kernel
theorem dd_L_law_437 : decode code 437 = .ok (.iconst 2, 1) := by decide +kernel
theorem dd_L_law_438 : decode code 438 = .ok (.iadd, 1) := by decide +kernel
theorem dd_L_law_439 : decode code 439 = .ok (.iaload, 1) := by decide +kernel
theorem dd_L_law_440 : decode code 440 = .ok (.aload_n 0, 1) := by decide +kernel
theorem dd_L_law_441 : decode code 441 = .ok (.iload 4, 2) := by decide +kernel
theorem dd_L_law_443 : decode code 443 = .ok (.iconst 3, 1) := by decide +kernel
theorem dd_L_law_444 : decode code 444 = .ok (.iadd, 1) := by decide +kernel
theorem dd_L_law_445 : decode code 445 = .ok (.iaload, 1) := by decide +kernel
theorem dd_L_law_446 : decode code 446 = .ok (.ifCond .eq 7, 3) := by decide +kernel
theorem dd_L_law_449 : decode code 449 = .ok (.iconst 1, 1) := by decide +kernel
theorem dd_L_law_450 : decode code 450 = .ok (.goto 4, 3) := by decide +kernel
theorem dd_L_law_453 : decode code 453 = .ok (.iconst 0, 1) := by decide +kernel
theorem dd_L_law_454 : decode code 454 = .ok (.aload_n 3, 1) := by decide +kernel
theorem dd_L_law_455 : decode code 455 = .ok (.invokestatic 116, 3) := by decide +kernel
theorem dd_L_law_458 : decode code 458 = .ok (.istore 5, 2) := by decide +kernel
theorem dd_L_law_460 : decode code 460 = .ok (.aload_n 2, 1) := by decide +kernel
theorem dd_L_law_461 : decode code 461 = .ok (.aload_n 0, 1) := by decide +kernel
theorem dd_L_law_462 : decode code 462 = .ok (.iload 4, 2) := by decide +kernel
theorem dd_L_law_464 : decode code 464 = .ok (.iconst 1, 1) := by decide +kernel
theorem dd_L_law_465 : decode code 465 = .ok (.iadd, 1) := by decide +kernel
theorem dd_L_law_466 : decode code 466 = .ok (.iaload, 1) := by decide +kernel
theorem dd_L_law_467 : decode code 467 = .ok (.aload_n 0, 1) := by decide +kernel
theorem dd_L_law_468 : decode code 468 = .ok (.iload 4, 2) := by decide +kernel
theorem dd_L_law_470 : decode code 470 = .ok (.iconst 2, 1) := by decide +kernel
theorem dd_L_law_471 : decode code 471 = .ok (.iadd, 1) := by decide +kernel
theorem dd_L_law_472 : decode code 472 = .ok (.iaload, 1) := by decide +kernel
theorem dd_L_law_473 : decode code 473 = .ok (.aload_n 0, 1) := by decide +kernel
theorem dd_L_law_474 : decode code 474 = .ok (.iload 4, 2) := by decide +kernel
theorem dd_L_law_476 : decode code 476 = .ok (.iconst 3, 1) := by decide +kernel
theorem dd_L_law_477 : decode code 477 = .ok (.iadd, 1) := by decide +kernel
theorem dd_L_law_478 : decode code 478 = .ok (.iaload, 1) := by decide +kernel
theorem dd_L_law_479 : decode code 479 = .ok (.ifCond .eq 7, 3) := by decide +kernel
theorem dd_L_law_482 : decode code 482 = .ok (.iconst 1, 1) := by decide +kernel
theorem dd_L_law_483 : decode code 483 = .ok (.goto 4, 3) := by decide +kernel
theorem dd_L_law_486 : decode code 486 = .ok (.iconst 0, 1) := by decide +kernel
theorem dd_L_law_487 : decode code 487 = .ok (.invokevirtual 119, 3) := by decide +kernel
theorem dd_L_law_490 : decode code 490 = .ok (.istore 6, 2) := by decide +kernel
theorem dd_L_law_492 : decode code 492 = .ok (.aload_n 2, 1) := by decide +kernel
theorem dd_L_law_493 : decode code 493 = .ok (.invokevirtual 101, 3) := by decide +kernel
theorem dd_L_law_496 : decode code 496 = .ok (.iload 5, 2) := by decide +kernel
theorem dd_L_law_498 : decode code 498 = .ok (.if_icmp .eq 5, 3) := by decide +kernel
theorem dd_L_law_501 : decode code 501 = .ok (.iconst 0, 1) := by decide +kernel
theorem dd_L_law_502 : decode code 502 = .ok (.ireturn, 1) := by decide +kernel
theorem dd_L_law_503 : decode code 503 = .ok (.iload 5, 2) := by decide +kernel
theorem dd_L_law_505 : decode code 505 = .ok (.ifCond .ne 15, 3) := by decide +kernel
theorem dd_L_law_508 : decode code 508 = .ok (.aload_n 3, 1) := by decide +kernel
theorem dd_L_law_509 : decode code 509 = .ok (.iconst 0, 1) := by decide +kernel
theorem dd_L_law_510 : decode code 510 = .ok (.laload, 1) := by decide +kernel
theorem dd_L_law_511 : decode code 511 = .ok (.iload 6, 2) := by decide +kernel
theorem dd_L_law_513 : decode code 513 = .ok (.i2l, 1) := by decide +kernel
theorem dd_L_law_514 : decode code 514 = .ok (.lcmp, 1) := by decide +kernel
theorem dd_L_law_515 : decode code 515 = .ok (.ifCond .eq 5, 3) := by decide +kernel
theorem dd_L_law_518 : decode code 518 = .ok (.iconst 0, 1) := by decide +kernel
theorem dd_L_law_519 : decode code 519 = .ok (.ireturn, 1) := by decide +kernel
theorem dd_L_law_520 : decode code 520 = .ok (.goto 1126, 3) := by decide +kernel
theorem dd_L_law_523 : decode code 523 = .ok (.aload_n 1, 1) := by decide +kernel
theorem dd_L_law_524 : decode code 524 = .ok (.aload_n 0, 1) := by decide +kernel
theorem dd_L_law_525 : decode code 525 = .ok (.iload 4, 2) := by decide +kernel
theorem dd_L_law_527 : decode code 527 = .ok (.iconst 1, 1) := by decide +kernel
theorem dd_L_law_528 : decode code 528 = .ok (.iadd, 1) := by decide +kernel
theorem dd_L_law_529 : decode code 529 = .ok (.iaload, 1) := by decide +kernel
theorem dd_L_law_530 : decode code 530 = .ok (.aload_n 0, 1) := by decide +kernel
theorem dd_L_law_531 : decode code 531 = .ok (.iload 4, 2) := by decide +kernel
theorem dd_L_law_533 : decode code 533 = .ok (.iconst 2, 1) := by decide +kernel
theorem dd_L_law_534 : decode code 534 = .ok (.iadd, 1) := by decide +kernel
theorem dd_L_law_535 : decode code 535 = .ok (.iaload, 1) := by decide +kernel
theorem dd_L_law_536 : decode code 536 = .ok (.invokestatic 120, 3) := by decide +kernel
theorem dd_L_law_539 : decode code 539 = .ok (.istore 5, 2) := by decide +kernel
theorem dd_L_law_541 : decode code 541 = .ok (.aload_n 2, 1) := by decide +kernel
theorem dd_L_law_542 : decode code 542 = .ok (.aload_n 0, 1) := by decide +kernel
theorem dd_L_law_543 : decode code 543 = .ok (.iload 4, 2) := by decide +kernel
theorem dd_L_law_545 : decode code 545 = .ok (.iconst 1, 1) := by decide +kernel
theorem dd_L_law_546 : decode code 546 = .ok (.iadd, 1) := by decide +kernel
theorem dd_L_law_547 : decode code 547 = .ok (.iaload, 1) := by decide +kernel
theorem dd_L_law_548 : decode code 548 = .ok (.aload_n 0, 1) := by decide +kernel
theorem dd_L_law_549 : decode code 549 = .ok (.iload 4, 2) := by decide +kernel
theorem dd_L_law_551 : decode code 551 = .ok (.iconst 2, 1) := by decide +kernel
theorem dd_L_law_552 : decode code 552 = .ok (.iadd, 1) := by decide +kernel
theorem dd_L_law_553 : decode code 553 = .ok (.iaload, 1) := by decide +kernel
theorem dd_L_law_554 : decode code 554 = .ok (.invokevirtual 123, 3) := by decide +kernel
theorem dd_L_law_557 : decode code 557 = .ok (.aload_n 2, 1) := by decide +kernel
theorem dd_L_law_558 : decode code 558 = .ok (.invokevirtual 101, 3) := by decide +kernel
theorem dd_L_law_561 : decode code 561 = .ok (.iload 5, 2) := by decide +kernel
theorem dd_L_law_563 : decode code 563 = .ok (.if_icmp .eq 5, 3) := by decide +kernel
theorem dd_L_law_566 : decode code 566 = .ok (.iconst 0, 1) := by decide +kernel
theorem dd_L_law_567 : decode code 567 = .ok (.ireturn, 1) := by decide +kernel
theorem dd_L_law_568 : decode code 568 = .ok (.goto 1078, 3) := by decide +kernel
theorem dd_L_law_571 : decode code 571 = .ok (.aload_n 1, 1) := by decide +kernel
theorem dd_L_law_572 : decode code 572 = .ok (.aload_n 0, 1) := by decide +kernel
theorem dd_L_law_573 : decode code 573 = .ok (.iload 4, 2) := by decide +kernel
theorem dd_L_law_575 : decode code 575 = .ok (.iconst 1, 1) := by decide +kernel
theorem dd_L_law_576 : decode code 576 = .ok (.iadd, 1) := by decide +kernel
theorem dd_L_law_577 : decode code 577 = .ok (.iaload, 1) := by decide +kernel
theorem dd_L_law_578 : decode code 578 = .ok (.aload_n 3, 1) := by decide +kernel
theorem dd_L_law_579 : decode code 579 = .ok (.invokestatic 124, 3) := by decide +kernel
theorem dd_L_law_582 : decode code 582 = .ok (.istore 5, 2) := by decide +kernel
theorem dd_L_law_584 : decode code 584 = .ok (.aload_n 2, 1) := by decide +kernel
theorem dd_L_law_585 : decode code 585 = .ok (.aload_n 0, 1) := by decide +kernel
theorem dd_L_law_586 : decode code 586 = .ok (.iload 4, 2) := by decide +kernel
theorem dd_L_law_588 : decode code 588 = .ok (.iconst 1, 1) := by decide +kernel
theorem dd_L_law_589 : decode code 589 = .ok (.iadd, 1) := by decide +kernel
theorem dd_L_law_590 : decode code 590 = .ok (.iaload, 1) := by decide +kernel
theorem dd_L_law_591 : decode code 591 = .ok (.invokevirtual 126, 3) := by decide +kernel
theorem dd_L_law_594 : decode code 594 = .ok (.istore 6, 2) := by decide +kernel
theorem dd_L_law_596 : decode code 596 = .ok (.aload_n 2, 1) := by decide +kernel
theorem dd_L_law_597 : decode code 597 = .ok (.invokevirtual 101, 3) := by decide +kernel
theorem dd_L_law_600 : decode code 600 = .ok (.iload 5, 2) := by decide +kernel
theorem dd_L_law_602 : decode code 602 = .ok (.if_icmp .eq 5, 3) := by decide +kernel
theorem dd_L_law_605 : decode code 605 = .ok (.iconst 0, 1) := by decide +kernel
theorem dd_L_law_606 : decode code 606 = .ok (.ireturn, 1) := by decide +kernel
theorem dd_L_law_607 : decode code 607 = .ok (.iload 5, 2) := by decide +kernel
theorem dd_L_law_609 : decode code 609 = .ok (.ifCond .ne 15, 3) := by decide +kernel
theorem dd_L_law_612 : decode code 612 = .ok (.aload_n 3, 1) := by decide +kernel
theorem dd_L_law_613 : decode code 613 = .ok (.iconst 0, 1) := by decide +kernel
theorem dd_L_law_614 : decode code 614 = .ok (.laload, 1) := by decide +kernel
theorem dd_L_law_615 : decode code 615 = .ok (.iload 6, 2) := by decide +kernel
theorem dd_L_law_617 : decode code 617 = .ok (.i2l, 1) := by decide +kernel
theorem dd_L_law_618 : decode code 618 = .ok (.lcmp, 1) := by decide +kernel
theorem dd_L_law_619 : decode code 619 = .ok (.ifCond .eq 5, 3) := by decide +kernel
theorem dd_L_law_622 : decode code 622 = .ok (.iconst 0, 1) := by decide +kernel
theorem dd_L_law_623 : decode code 623 = .ok (.ireturn, 1) := by decide +kernel
theorem dd_L_law_624 : decode code 624 = .ok (.goto 1022, 3) := by decide +kernel
theorem dd_L_law_627 : decode code 627 = .ok (.aload_n 1, 1) := by decide +kernel
theorem dd_L_law_628 : decode code 628 = .ok (.aload_n 0, 1) := by decide +kernel
theorem dd_L_law_629 : decode code 629 = .ok (.iload 4, 2) := by decide +kernel
theorem dd_L_law_631 : decode code 631 = .ok (.iconst 1, 1) := by decide +kernel
theorem dd_L_law_632 : decode code 632 = .ok (.iadd, 1) := by decide +kernel
theorem dd_L_law_633 : decode code 633 = .ok (.iaload, 1) := by decide +kernel
theorem dd_L_law_634 : decode code 634 = .ok (.aload_n 0, 1) := by decide +kernel
theorem dd_L_law_635 : decode code 635 = .ok (.iload 4, 2) := by decide +kernel
theorem dd_L_law_637 : decode code 637 = .ok (.iconst 2, 1) := by decide +kernel
theorem dd_L_law_638 : decode code 638 = .ok (.iadd, 1) := by decide +kernel
theorem dd_L_law_639 : decode code 639 = .ok (.iaload, 1) := by decide +kernel
theorem dd_L_law_640 : decode code 640 = .ok (.aload_n 0, 1) := by decide +kernel
theorem dd_L_law_641 : decode code 641 = .ok (.iload 4, 2) := by decide +kernel
theorem dd_L_law_643 : decode code 643 = .ok (.iconst 3, 1) := by decide +kernel
theorem dd_L_law_644 : decode code 644 = .ok (.iadd, 1) := by decide +kernel
theorem dd_L_law_645 : decode code 645 = .ok (.iaload, 1) := by decide +kernel
theorem dd_L_law_646 : decode code 646 = .ok (.aload_n 3, 1) := by decide +kernel
theorem dd_L_law_647 : decode code 647 = .ok (.invokestatic 127, 3) := by decide +kernel
theorem dd_L_law_650 : decode code 650 = .ok (.istore 5, 2) := by decide +kernel
theorem dd_L_law_652 : decode code 652 = .ok (.aload_n 2, 1) := by decide +kernel
theorem dd_L_law_653 : decode code 653 = .ok (.aload_n 0, 1) := by decide +kernel
theorem dd_L_law_654 : decode code 654 = .ok (.iload 4, 2) := by decide +kernel
theorem dd_L_law_656 : decode code 656 = .ok (.iconst 1, 1) := by decide +kernel
theorem dd_L_law_657 : decode code 657 = .ok (.iadd, 1) := by decide +kernel
theorem dd_L_law_658 : decode code 658 = .ok (.iaload, 1) := by decide +kernel
theorem dd_L_law_659 : decode code 659 = .ok (.aload_n 0, 1) := by decide +kernel
theorem dd_L_law_660 : decode code 660 = .ok (.iload 4, 2) := by decide +kernel
theorem dd_L_law_662 : decode code 662 = .ok (.iconst 2, 1) := by decide +kernel
theorem dd_L_law_663 : decode code 663 = .ok (.iadd, 1) := by decide +kernel
theorem dd_L_law_664 : decode code 664 = .ok (.iaload, 1) := by decide +kernel
theorem dd_L_law_665 : decode code 665 = .ok (.aload_n 0, 1) := by decide +kernel
theorem dd_L_law_666 : decode code 666 = .ok (.iload 4, 2) := by decide +kernel
theorem dd_L_law_668 : decode code 668 = .ok (.iconst 3, 1) := by decide +kernel
theorem dd_L_law_669 : decode code 669 = .ok (.iadd, 1) := by decide +kernel
theorem dd_L_law_670 : decode code 670 = .ok (.iaload, 1) := by decide +kernel
theorem dd_L_law_671 : decode code 671 = .ok (.invokevirtual 129, 3) := by decide +kernel
theorem dd_L_law_674 : decode code 674 = .ok (.istore 6, 2) := by decide +kernel
theorem dd_L_law_676 : decode code 676 = .ok (.aload_n 2, 1) := by decide +kernel
theorem dd_L_law_677 : decode code 677 = .ok (.invokevirtual 101, 3) := by decide +kernel
theorem dd_L_law_680 : decode code 680 = .ok (.iload 5, 2) := by decide +kernel
theorem dd_L_law_682 : decode code 682 = .ok (.if_icmp .eq 5, 3) := by decide +kernel
theorem dd_L_law_685 : decode code 685 = .ok (.iconst 0, 1) := by decide +kernel
theorem dd_L_law_686 : decode code 686 = .ok (.ireturn, 1) := by decide +kernel
theorem dd_L_law_687 : decode code 687 = .ok (.iload 5, 2) := by decide +kernel
theorem dd_L_law_689 : decode code 689 = .ok (.ifCond .ne 15, 3) := by decide +kernel
theorem dd_L_law_692 : decode code 692 = .ok (.aload_n 3, 1) := by decide +kernel
theorem dd_L_law_693 : decode code 693 = .ok (.iconst 0, 1) := by decide +kernel
theorem dd_L_law_694 : decode code 694 = .ok (.laload, 1) := by decide +kernel
theorem dd_L_law_695 : decode code 695 = .ok (.iload 6, 2) := by decide +kernel
theorem dd_L_law_697 : decode code 697 = .ok (.i2l, 1) := by decide +kernel
theorem dd_L_law_698 : decode code 698 = .ok (.lcmp, 1) := by decide +kernel
theorem dd_L_law_699 : decode code 699 = .ok (.ifCond .eq 5, 3) := by decide +kernel
theorem dd_L_law_702 : decode code 702 = .ok (.iconst 0, 1) := by decide +kernel
theorem dd_L_law_703 : decode code 703 = .ok (.ireturn, 1) := by decide +kernel
theorem dd_L_law_704 : decode code 704 = .ok (.goto 942, 3) := by decide +kernel
theorem dd_L_law_707 : decode code 707 = .ok (.aload_n 1, 1) := by decide +kernel
theorem dd_L_law_708 : decode code 708 = .ok (.aload_n 0, 1) := by decide +kernel
theorem dd_L_law_709 : decode code 709 = .ok (.iload 4, 2) := by decide +kernel
theorem dd_L_law_711 : decode code 711 = .ok (.iconst 1, 1) := by decide +kernel
theorem dd_L_law_712 : decode code 712 = .ok (.iadd, 1) := by decide +kernel
