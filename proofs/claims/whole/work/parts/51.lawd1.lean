theorem xd_law_424 : decode code 424 = .ok (.ireturn, 1) := by decide +kernel
theorem xd_law_425 : decode code 425 = .ok (.aload_n 1, 1) := by decide +kernel
theorem xd_law_426 : decode code 426 = .ok (.aload_n 0, 1) := by decide +kernel
theorem xd_law_427 : decode code 427 = .ok (.iload_n 3, 1) := by decide +kernel
theorem xd_law_428 : decode code 428 = .ok (.iconst 1, 1) := by decide +kernel
theorem xd_law_429 : decode code 429 = .ok (.iadd, 1) := by decide +kernel
theorem xd_law_430 : decode code 430 = .ok (.iaload, 1) := by decide +kernel
theorem xd_law_431 : decode code 431 = .ok (.invokevirtual 43, 3) := by decide +kernel
theorem xd_law_434 : decode code 434 = .ok (.aload_n 2, 1) := by decide +kernel
theorem xd_law_435 : decode code 435 = .ok (.aload_n 0, 1) := by decide +kernel
theorem xd_law_436 : decode code 436 = .ok (.iload_n 3, 1) := by decide +kernel
theorem xd_law_437 : decode code 437 = .ok (.iconst 1, 1) := by decide +kernel
theorem xd_law_438 : decode code 438 = .ok (.iadd, 1) := by decide +kernel
theorem xd_law_439 : decode code 439 = .ok (.iaload, 1) := by decide +kernel
theorem xd_law_440 : decode code 440 = .ok (.invokevirtual 46, 3) := by decide +kernel
theorem xd_law_443 : decode code 443 = .ok (.if_icmp .eq 805, 3) := by decide +kernel
theorem xd_law_446 : decode code 446 = .ok (.iconst 0, 1) := by decide +kernel
theorem xd_law_447 : decode code 447 = .ok (.ireturn, 1) := by decide +kernel
theorem xd_law_448 : decode code 448 = .ok (.aload_n 1, 1) := by decide +kernel
theorem xd_law_449 : decode code 449 = .ok (.aload_n 0, 1) := by decide +kernel
theorem xd_law_450 : decode code 450 = .ok (.iload_n 3, 1) := by decide +kernel
theorem xd_law_451 : decode code 451 = .ok (.iconst 1, 1) := by decide +kernel
theorem xd_law_452 : decode code 452 = .ok (.iadd, 1) := by decide +kernel
theorem xd_law_453 : decode code 453 = .ok (.iaload, 1) := by decide +kernel
theorem xd_law_454 : decode code 454 = .ok (.aload_n 0, 1) := by decide +kernel
theorem xd_law_455 : decode code 455 = .ok (.iload_n 3, 1) := by decide +kernel
theorem xd_law_456 : decode code 456 = .ok (.iconst 2, 1) := by decide +kernel
theorem xd_law_457 : decode code 457 = .ok (.iadd, 1) := by decide +kernel
theorem xd_law_458 : decode code 458 = .ok (.iaload, 1) := by decide +kernel
theorem xd_law_459 : decode code 459 = .ok (.invokevirtual 47, 3) := by decide +kernel
theorem xd_law_462 : decode code 462 = .ok (.aload_n 2, 1) := by decide +kernel
theorem xd_law_463 : decode code 463 = .ok (.aload_n 0, 1) := by decide +kernel
theorem xd_law_464 : decode code 464 = .ok (.iload_n 3, 1) := by decide +kernel
theorem xd_law_465 : decode code 465 = .ok (.iconst 1, 1) := by decide +kernel
theorem xd_law_466 : decode code 466 = .ok (.iadd, 1) := by decide +kernel
theorem xd_law_467 : decode code 467 = .ok (.iaload, 1) := by decide +kernel
theorem xd_law_468 : decode code 468 = .ok (.aload_n 0, 1) := by decide +kernel
theorem xd_law_469 : decode code 469 = .ok (.iload_n 3, 1) := by decide +kernel
theorem xd_law_470 : decode code 470 = .ok (.iconst 2, 1) := by decide +kernel
theorem xd_law_471 : decode code 471 = .ok (.iadd, 1) := by decide +kernel
theorem xd_law_472 : decode code 472 = .ok (.iaload, 1) := by decide +kernel
theorem xd_law_473 : decode code 473 = .ok (.invokevirtual 51, 3) := by decide +kernel
theorem xd_law_476 : decode code 476 = .ok (.if_icmp .eq 772, 3) := by decide +kernel
theorem xd_law_479 : decode code 479 = .ok (.iconst 0, 1) := by decide +kernel
theorem xd_law_480 : decode code 480 = .ok (.ireturn, 1) := by decide +kernel
theorem xd_law_481 : decode code 481 = .ok (.aload_n 1, 1) := by decide +kernel
theorem xd_law_482 : decode code 482 = .ok (.aload_n 0, 1) := by decide +kernel
theorem xd_law_483 : decode code 483 = .ok (.iload_n 3, 1) := by decide +kernel
theorem xd_law_484 : decode code 484 = .ok (.iconst 1, 1) := by decide +kernel
theorem xd_law_485 : decode code 485 = .ok (.iadd, 1) := by decide +kernel
theorem xd_law_486 : decode code 486 = .ok (.iaload, 1) := by decide +kernel
theorem xd_law_487 : decode code 487 = .ok (.invokevirtual 52, 3) := by decide +kernel
theorem xd_law_490 : decode code 490 = .ok (.aload_n 2, 1) := by decide +kernel
theorem xd_law_491 : decode code 491 = .ok (.aload_n 0, 1) := by decide +kernel
theorem xd_law_492 : decode code 492 = .ok (.iload_n 3, 1) := by decide +kernel
theorem xd_law_493 : decode code 493 = .ok (.iconst 1, 1) := by decide +kernel
theorem xd_law_494 : decode code 494 = .ok (.iadd, 1) := by decide +kernel
theorem xd_law_495 : decode code 495 = .ok (.iaload, 1) := by decide +kernel
theorem xd_law_496 : decode code 496 = .ok (.invokevirtual 55, 3) := by decide +kernel
theorem xd_law_499 : decode code 499 = .ok (.if_icmp .eq 749, 3) := by decide +kernel
theorem xd_law_502 : decode code 502 = .ok (.iconst 0, 1) := by decide +kernel
theorem xd_law_503 : decode code 503 = .ok (.ireturn, 1) := by decide +kernel
theorem xd_law_504 : decode code 504 = .ok (.aload_n 1, 1) := by decide +kernel
theorem xd_law_505 : decode code 505 = .ok (.aload_n 0, 1) := by decide +kernel
theorem xd_law_506 : decode code 506 = .ok (.iload_n 3, 1) := by decide +kernel
theorem xd_law_507 : decode code 507 = .ok (.iconst 1, 1) := by decide +kernel
theorem xd_law_508 : decode code 508 = .ok (.iadd, 1) := by decide +kernel
theorem xd_law_509 : decode code 509 = .ok (.iaload, 1) := by decide +kernel
theorem xd_law_510 : decode code 510 = .ok (.aload_n 0, 1) := by decide +kernel
theorem xd_law_511 : decode code 511 = .ok (.iload_n 3, 1) := by decide +kernel
theorem xd_law_512 : decode code 512 = .ok (.iconst 2, 1) := by decide +kernel
theorem xd_law_513 : decode code 513 = .ok (.iadd, 1) := by decide +kernel
theorem xd_law_514 : decode code 514 = .ok (.iaload, 1) := by decide +kernel
theorem xd_law_515 : decode code 515 = .ok (.aload_n 0, 1) := by decide +kernel
theorem xd_law_516 : decode code 516 = .ok (.iload_n 3, 1) := by decide +kernel
theorem xd_law_517 : decode code 517 = .ok (.iconst 3, 1) := by decide +kernel
theorem xd_law_518 : decode code 518 = .ok (.iadd, 1) := by decide +kernel
theorem xd_law_519 : decode code 519 = .ok (.iaload, 1) := by decide +kernel
theorem xd_law_520 : decode code 520 = .ok (.invokevirtual 56, 3) := by decide +kernel
theorem xd_law_523 : decode code 523 = .ok (.aload_n 2, 1) := by decide +kernel
theorem xd_law_524 : decode code 524 = .ok (.aload_n 0, 1) := by decide +kernel
theorem xd_law_525 : decode code 525 = .ok (.iload_n 3, 1) := by decide +kernel
theorem xd_law_526 : decode code 526 = .ok (.iconst 1, 1) := by decide +kernel
theorem xd_law_527 : decode code 527 = .ok (.iadd, 1) := by decide +kernel
theorem xd_law_528 : decode code 528 = .ok (.iaload, 1) := by decide +kernel
theorem xd_law_529 : decode code 529 = .ok (.aload_n 0, 1) := by decide +kernel
theorem xd_law_530 : decode code 530 = .ok (.iload_n 3, 1) := by decide +kernel
theorem xd_law_531 : decode code 531 = .ok (.iconst 2, 1) := by decide +kernel
theorem xd_law_532 : decode code 532 = .ok (.iadd, 1) := by decide +kernel
theorem xd_law_533 : decode code 533 = .ok (.iaload, 1) := by decide +kernel
theorem xd_law_534 : decode code 534 = .ok (.aload_n 0, 1) := by decide +kernel
theorem xd_law_535 : decode code 535 = .ok (.iload_n 3, 1) := by decide +kernel
theorem xd_law_536 : decode code 536 = .ok (.iconst 3, 1) := by decide +kernel
theorem xd_law_537 : decode code 537 = .ok (.iadd, 1) := by decide +kernel
theorem xd_law_538 : decode code 538 = .ok (.iaload, 1) := by decide +kernel
theorem xd_law_539 : decode code 539 = .ok (.invokevirtual 59, 3) := by decide +kernel
theorem xd_law_542 : decode code 542 = .ok (.if_icmp .eq 706, 3) := by decide +kernel
theorem xd_law_545 : decode code 545 = .ok (.iconst 0, 1) := by decide +kernel
theorem xd_law_546 : decode code 546 = .ok (.ireturn, 1) := by decide +kernel
theorem xd_law_547 : decode code 547 = .ok (.aload_n 1, 1) := by decide +kernel
theorem xd_law_548 : decode code 548 = .ok (.aload_n 0, 1) := by decide +kernel
theorem xd_law_549 : decode code 549 = .ok (.iload_n 3, 1) := by decide +kernel
theorem xd_law_550 : decode code 550 = .ok (.iconst 1, 1) := by decide +kernel
theorem xd_law_551 : decode code 551 = .ok (.iadd, 1) := by decide +kernel
theorem xd_law_552 : decode code 552 = .ok (.iaload, 1) := by decide +kernel
theorem xd_law_553 : decode code 553 = .ok (.aload_n 0, 1) := by decide +kernel
theorem xd_law_554 : decode code 554 = .ok (.iload_n 3, 1) := by decide +kernel
theorem xd_law_555 : decode code 555 = .ok (.iconst 2, 1) := by decide +kernel
theorem xd_law_556 : decode code 556 = .ok (.iadd, 1) := by decide +kernel
theorem xd_law_557 : decode code 557 = .ok (.iaload, 1) := by decide +kernel
theorem xd_law_558 : decode code 558 = .ok (.invokevirtual 60, 3) := by decide +kernel
theorem xd_law_561 : decode code 561 = .ok (.aload_n 2, 1) := by decide +kernel
theorem xd_law_562 : decode code 562 = .ok (.aload_n 0, 1) := by decide +kernel
theorem xd_law_563 : decode code 563 = .ok (.iload_n 3, 1) := by decide +kernel
theorem xd_law_564 : decode code 564 = .ok (.iconst 1, 1) := by decide +kernel
theorem xd_law_565 : decode code 565 = .ok (.iadd, 1) := by decide +kernel
theorem xd_law_566 : decode code 566 = .ok (.iaload, 1) := by decide +kernel
theorem xd_law_567 : decode code 567 = .ok (.aload_n 0, 1) := by decide +kernel
theorem xd_law_568 : decode code 568 = .ok (.iload_n 3, 1) := by decide +kernel
theorem xd_law_569 : decode code 569 = .ok (.iconst 2, 1) := by decide +kernel
theorem xd_law_570 : decode code 570 = .ok (.iadd, 1) := by decide +kernel
theorem xd_law_571 : decode code 571 = .ok (.iaload, 1) := by decide +kernel
theorem xd_law_572 : decode code 572 = .ok (.invokevirtual 63, 3) := by decide +kernel
theorem xd_law_575 : decode code 575 = .ok (.if_icmp .eq 673, 3) := by decide +kernel
theorem xd_law_578 : decode code 578 = .ok (.iconst 0, 1) := by decide +kernel
theorem xd_law_579 : decode code 579 = .ok (.ireturn, 1) := by decide +kernel
theorem xd_law_580 : decode code 580 = .ok (.aload_n 1, 1) := by decide +kernel
theorem xd_law_581 : decode code 581 = .ok (.aload_n 0, 1) := by decide +kernel
theorem xd_law_582 : decode code 582 = .ok (.iload_n 3, 1) := by decide +kernel
theorem xd_law_583 : decode code 583 = .ok (.iconst 1, 1) := by decide +kernel
theorem xd_law_584 : decode code 584 = .ok (.iadd, 1) := by decide +kernel
theorem xd_law_585 : decode code 585 = .ok (.iaload, 1) := by decide +kernel
theorem xd_law_586 : decode code 586 = .ok (.aload_n 0, 1) := by decide +kernel
theorem xd_law_587 : decode code 587 = .ok (.iload_n 3, 1) := by decide +kernel
theorem xd_law_588 : decode code 588 = .ok (.iconst 2, 1) := by decide +kernel
theorem xd_law_589 : decode code 589 = .ok (.iadd, 1) := by decide +kernel
theorem xd_law_590 : decode code 590 = .ok (.iaload, 1) := by decide +kernel
theorem xd_law_591 : decode code 591 = .ok (.ifCond .eq 7, 3) := by decide +kernel
theorem xd_law_594 : decode code 594 = .ok (.iconst 1, 1) := by decide +kernel
theorem xd_law_595 : decode code 595 = .ok (.goto 4, 3) := by decide +kernel
theorem xd_law_598 : decode code 598 = .ok (.iconst 0, 1) := by decide +kernel
theorem xd_law_599 : decode code 599 = .ok (.invokevirtual 64, 3) := by decide +kernel
theorem xd_law_602 : decode code 602 = .ok (.aload_n 2, 1) := by decide +kernel
theorem xd_law_603 : decode code 603 = .ok (.aload_n 0, 1) := by decide +kernel
theorem xd_law_604 : decode code 604 = .ok (.iload_n 3, 1) := by decide +kernel
theorem xd_law_605 : decode code 605 = .ok (.iconst 1, 1) := by decide +kernel
theorem xd_law_606 : decode code 606 = .ok (.iadd, 1) := by decide +kernel
theorem xd_law_607 : decode code 607 = .ok (.iaload, 1) := by decide +kernel
theorem xd_law_608 : decode code 608 = .ok (.aload_n 0, 1) := by decide +kernel
theorem xd_law_609 : decode code 609 = .ok (.iload_n 3, 1) := by decide +kernel
theorem xd_law_610 : decode code 610 = .ok (.iconst 2, 1) := by decide +kernel
theorem xd_law_611 : decode code 611 = .ok (.iadd, 1) := by decide +kernel
theorem xd_law_612 : decode code 612 = .ok (.iaload, 1) := by decide +kernel
theorem xd_law_613 : decode code 613 = .ok (.ifCond .eq 7, 3) := by decide +kernel
theorem xd_law_616 : decode code 616 = .ok (.iconst 1, 1) := by decide +kernel
theorem xd_law_617 : decode code 617 = .ok (.goto 4, 3) := by decide +kernel
theorem xd_law_620 : decode code 620 = .ok (.iconst 0, 1) := by decide +kernel
theorem xd_law_621 : decode code 621 = .ok (.invokevirtual 68, 3) := by decide +kernel
theorem xd_law_624 : decode code 624 = .ok (.if_icmp .eq 624, 3) := by decide +kernel
theorem xd_law_627 : decode code 627 = .ok (.iconst 0, 1) := by decide +kernel
theorem xd_law_628 : decode code 628 = .ok (.ireturn, 1) := by decide +kernel
theorem xd_law_629 : decode code 629 = .ok (.aload_n 1, 1) := by decide +kernel
theorem xd_law_630 : decode code 630 = .ok (.aload_n 0, 1) := by decide +kernel
theorem xd_law_631 : decode code 631 = .ok (.iload_n 3, 1) := by decide +kernel
theorem xd_law_632 : decode code 632 = .ok (.iconst 1, 1) := by decide +kernel
theorem xd_law_633 : decode code 633 = .ok (.iadd, 1) := by decide +kernel
theorem xd_law_634 : decode code 634 = .ok (.iaload, 1) := by decide +kernel
theorem xd_law_635 : decode code 635 = .ok (.aload_n 0, 1) := by decide +kernel
theorem xd_law_636 : decode code 636 = .ok (.iload_n 3, 1) := by decide +kernel
theorem xd_law_637 : decode code 637 = .ok (.iconst 2, 1) := by decide +kernel
theorem xd_law_638 : decode code 638 = .ok (.iadd, 1) := by decide +kernel
theorem xd_law_639 : decode code 639 = .ok (.iaload, 1) := by decide +kernel
theorem xd_law_640 : decode code 640 = .ok (.invokevirtual 69, 3) := by decide +kernel
theorem xd_law_643 : decode code 643 = .ok (.aload_n 2, 1) := by decide +kernel
theorem xd_law_644 : decode code 644 = .ok (.aload_n 0, 1) := by decide +kernel
theorem xd_law_645 : decode code 645 = .ok (.iload_n 3, 1) := by decide +kernel
theorem xd_law_646 : decode code 646 = .ok (.iconst 1, 1) := by decide +kernel
theorem xd_law_647 : decode code 647 = .ok (.iadd, 1) := by decide +kernel
theorem xd_law_648 : decode code 648 = .ok (.iaload, 1) := by decide +kernel
theorem xd_law_649 : decode code 649 = .ok (.aload_n 0, 1) := by decide +kernel
theorem xd_law_650 : decode code 650 = .ok (.iload_n 3, 1) := by decide +kernel
theorem xd_law_651 : decode code 651 = .ok (.iconst 2, 1) := by decide +kernel
theorem xd_law_652 : decode code 652 = .ok (.iadd, 1) := by decide +kernel
theorem xd_law_653 : decode code 653 = .ok (.iaload, 1) := by decide +kernel
theorem xd_law_654 : decode code 654 = .ok (.invokevirtual 72, 3) := by decide +kernel
theorem xd_law_657 : decode code 657 = .ok (.if_icmp .eq 591, 3) := by decide +kernel
theorem xd_law_660 : decode code 660 = .ok (.iconst 0, 1) := by decide +kernel
theorem xd_law_661 : decode code 661 = .ok (.ireturn, 1) := by decide +kernel
theorem xd_law_662 : decode code 662 = .ok (.aload_n 1, 1) := by decide +kernel
theorem xd_law_663 : decode code 663 = .ok (.aload_n 0, 1) := by decide +kernel
theorem xd_law_664 : decode code 664 = .ok (.iload_n 3, 1) := by decide +kernel
theorem xd_law_665 : decode code 665 = .ok (.iconst 1, 1) := by decide +kernel
theorem xd_law_666 : decode code 666 = .ok (.iadd, 1) := by decide +kernel
theorem xd_law_667 : decode code 667 = .ok (.iaload, 1) := by decide +kernel
theorem xd_law_668 : decode code 668 = .ok (.aload_n 0, 1) := by decide +kernel
theorem xd_law_669 : decode code 669 = .ok (.iload_n 3, 1) := by decide +kernel
theorem xd_law_670 : decode code 670 = .ok (.iconst 2, 1) := by decide +kernel
theorem xd_law_671 : decode code 671 = .ok (.iadd, 1) := by decide +kernel
theorem xd_law_672 : decode code 672 = .ok (.iaload, 1) := by decide +kernel
theorem xd_law_673 : decode code 673 = .ok (.ifCond .eq 7, 3) := by decide +kernel
theorem xd_law_676 : decode code 676 = .ok (.iconst 1, 1) := by decide +kernel
theorem xd_law_677 : decode code 677 = .ok (.goto 4, 3) := by decide +kernel
theorem xd_law_680 : decode code 680 = .ok (.iconst 0, 1) := by decide +kernel
theorem xd_law_681 : decode code 681 = .ok (.invokevirtual 73, 3) := by decide +kernel
theorem xd_law_684 : decode code 684 = .ok (.aload_n 2, 1) := by decide +kernel
theorem xd_law_685 : decode code 685 = .ok (.aload_n 0, 1) := by decide +kernel
theorem xd_law_686 : decode code 686 = .ok (.iload_n 3, 1) := by decide +kernel
theorem xd_law_687 : decode code 687 = .ok (.iconst 1, 1) := by decide +kernel
theorem xd_law_688 : decode code 688 = .ok (.iadd, 1) := by decide +kernel
theorem xd_law_689 : decode code 689 = .ok (.iaload, 1) := by decide +kernel
theorem xd_law_690 : decode code 690 = .ok (.aload_n 0, 1) := by decide +kernel
theorem xd_law_691 : decode code 691 = .ok (.iload_n 3, 1) := by decide +kernel
theorem xd_law_692 : decode code 692 = .ok (.iconst 2, 1) := by decide +kernel
theorem xd_law_693 : decode code 693 = .ok (.iadd, 1) := by decide +kernel
theorem xd_law_694 : decode code 694 = .ok (.iaload, 1) := by decide +kernel
theorem xd_law_695 : decode code 695 = .ok (.ifCond .eq 7, 3) := by decide +kernel
theorem xd_law_698 : decode code 698 = .ok (.iconst 1, 1) := by decide +kernel
theorem xd_law_699 : decode code 699 = .ok (.goto 4, 3) := by decide +kernel
theorem xd_law_702 : decode code 702 = .ok (.iconst 0, 1) := by decide +kernel
theorem xd_law_703 : decode code 703 = .ok (.invokevirtual 76, 3) := by decide +kernel
