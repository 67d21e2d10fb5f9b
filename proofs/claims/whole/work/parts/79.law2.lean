/-! the law decoded, 2 -/
theorem dw_459 : decode code 459 = .ok (.invokevirtual 81, 3) := by decide +kernel
theorem dw_462 : decode code 462 = .ok (.if_icmp .eq 1260, 3) := by decide +kernel
theorem dw_465 : decode code 465 = .ok (.iconst 0, 1) := by decide +kernel
theorem dw_466 : decode code 466 = .ok (.ireturn, 1) := by decide +kernel
theorem dw_467 : decode code 467 = .ok (.aload_n 1, 1) := by decide +kernel
theorem dw_468 : decode code 468 = .ok (.aload_n 0, 1) := by decide +kernel
theorem dw_469 : decode code 469 = .ok (.iload 4, 2) := by decide +kernel
theorem dw_471 : decode code 471 = .ok (.iconst 1, 1) := by decide +kernel
theorem dw_472 : decode code 472 = .ok (.iadd, 1) := by decide +kernel
theorem dw_473 : decode code 473 = .ok (.iaload, 1) := by decide +kernel
theorem dw_474 : decode code 474 = .ok (.aload_n 0, 1) := by decide +kernel
theorem dw_475 : decode code 475 = .ok (.iload 4, 2) := by decide +kernel
theorem dw_477 : decode code 477 = .ok (.iconst 2, 1) := by decide +kernel
theorem dw_478 : decode code 478 = .ok (.iadd, 1) := by decide +kernel
theorem dw_479 : decode code 479 = .ok (.iaload, 1) := by decide +kernel
theorem dw_480 : decode code 480 = .ok (.invokevirtual 82, 3) := by decide +kernel
theorem dw_483 : decode code 483 = .ok (.aload_n 2, 1) := by decide +kernel
theorem dw_484 : decode code 484 = .ok (.aload_n 0, 1) := by decide +kernel
theorem dw_485 : decode code 485 = .ok (.iload 4, 2) := by decide +kernel
theorem dw_487 : decode code 487 = .ok (.iconst 1, 1) := by decide +kernel
theorem dw_488 : decode code 488 = .ok (.iadd, 1) := by decide +kernel
theorem dw_489 : decode code 489 = .ok (.iaload, 1) := by decide +kernel
theorem dw_490 : decode code 490 = .ok (.aload_n 0, 1) := by decide +kernel
theorem dw_491 : decode code 491 = .ok (.iload 4, 2) := by decide +kernel
theorem dw_493 : decode code 493 = .ok (.iconst 2, 1) := by decide +kernel
theorem dw_494 : decode code 494 = .ok (.iadd, 1) := by decide +kernel
theorem dw_495 : decode code 495 = .ok (.iaload, 1) := by decide +kernel
theorem dw_496 : decode code 496 = .ok (.invokevirtual 85, 3) := by decide +kernel
theorem dw_499 : decode code 499 = .ok (.if_icmp .eq 1223, 3) := by decide +kernel
theorem dw_502 : decode code 502 = .ok (.iconst 0, 1) := by decide +kernel
theorem dw_503 : decode code 503 = .ok (.ireturn, 1) := by decide +kernel
theorem dw_504 : decode code 504 = .ok (.aload_n 1, 1) := by decide +kernel
theorem dw_505 : decode code 505 = .ok (.invokevirtual 86, 3) := by decide +kernel
theorem dw_508 : decode code 508 = .ok (.aload_n 2, 1) := by decide +kernel
theorem dw_509 : decode code 509 = .ok (.invokevirtual 89, 3) := by decide +kernel
theorem dw_512 : decode code 512 = .ok (.if_icmp .eq 1210, 3) := by decide +kernel
theorem dw_515 : decode code 515 = .ok (.iconst 0, 1) := by decide +kernel
theorem dw_516 : decode code 516 = .ok (.ireturn, 1) := by decide +kernel
theorem dw_517 : decode code 517 = .ok (.aload_n 1, 1) := by decide +kernel
theorem dw_518 : decode code 518 = .ok (.aload_n 0, 1) := by decide +kernel
theorem dw_519 : decode code 519 = .ok (.iload 4, 2) := by decide +kernel
theorem dw_521 : decode code 521 = .ok (.iconst 1, 1) := by decide +kernel
theorem dw_522 : decode code 522 = .ok (.iadd, 1) := by decide +kernel
theorem dw_523 : decode code 523 = .ok (.iaload, 1) := by decide +kernel
theorem dw_524 : decode code 524 = .ok (.invokevirtual 90, 3) := by decide +kernel
theorem dw_527 : decode code 527 = .ok (.aload_n 2, 1) := by decide +kernel
theorem dw_528 : decode code 528 = .ok (.aload_n 0, 1) := by decide +kernel
theorem dw_529 : decode code 529 = .ok (.iload 4, 2) := by decide +kernel
theorem dw_531 : decode code 531 = .ok (.iconst 1, 1) := by decide +kernel
theorem dw_532 : decode code 532 = .ok (.iadd, 1) := by decide +kernel
theorem dw_533 : decode code 533 = .ok (.iaload, 1) := by decide +kernel
theorem dw_534 : decode code 534 = .ok (.invokevirtual 94, 3) := by decide +kernel
theorem dw_537 : decode code 537 = .ok (.if_icmp .eq 1185, 3) := by decide +kernel
theorem dw_540 : decode code 540 = .ok (.iconst 0, 1) := by decide +kernel
theorem dw_541 : decode code 541 = .ok (.ireturn, 1) := by decide +kernel
theorem dw_542 : decode code 542 = .ok (.aload_n 1, 1) := by decide +kernel
theorem dw_543 : decode code 543 = .ok (.invokevirtual 95, 3) := by decide +kernel
theorem dw_546 : decode code 546 = .ok (.aload_n 2, 1) := by decide +kernel
theorem dw_547 : decode code 547 = .ok (.invokevirtual 98, 3) := by decide +kernel
theorem dw_550 : decode code 550 = .ok (.if_icmp .eq 1172, 3) := by decide +kernel
theorem dw_553 : decode code 553 = .ok (.iconst 0, 1) := by decide +kernel
theorem dw_554 : decode code 554 = .ok (.ireturn, 1) := by decide +kernel
theorem dw_555 : decode code 555 = .ok (.aload_n 1, 1) := by decide +kernel
theorem dw_556 : decode code 556 = .ok (.aload_n 0, 1) := by decide +kernel
theorem dw_557 : decode code 557 = .ok (.iload 4, 2) := by decide +kernel
theorem dw_559 : decode code 559 = .ok (.iconst 1, 1) := by decide +kernel
theorem dw_560 : decode code 560 = .ok (.iadd, 1) := by decide +kernel
theorem dw_561 : decode code 561 = .ok (.iaload, 1) := by decide +kernel
theorem dw_562 : decode code 562 = .ok (.aload_n 3, 1) := by decide +kernel
theorem dw_563 : decode code 563 = .ok (.invokestatic 99, 3) := by decide +kernel
theorem dw_566 : decode code 566 = .ok (.istore 5, 2) := by decide +kernel
theorem dw_568 : decode code 568 = .ok (.aload_n 2, 1) := by decide +kernel
theorem dw_569 : decode code 569 = .ok (.aload_n 0, 1) := by decide +kernel
theorem dw_570 : decode code 570 = .ok (.iload 4, 2) := by decide +kernel
theorem dw_572 : decode code 572 = .ok (.iconst 1, 1) := by decide +kernel
theorem dw_573 : decode code 573 = .ok (.iadd, 1) := by decide +kernel
theorem dw_574 : decode code 574 = .ok (.iaload, 1) := by decide +kernel
theorem dw_575 : decode code 575 = .ok (.invokevirtual 104, 3) := by decide +kernel
theorem dw_578 : decode code 578 = .ok (.lstore 6, 2) := by decide +kernel
theorem dw_580 : decode code 580 = .ok (.aload_n 2, 1) := by decide +kernel
theorem dw_581 : decode code 581 = .ok (.invokevirtual 105, 3) := by decide +kernel
theorem dw_584 : decode code 584 = .ok (.iload 5, 2) := by decide +kernel
theorem dw_586 : decode code 586 = .ok (.if_icmp .eq 5, 3) := by decide +kernel
theorem dw_589 : decode code 589 = .ok (.iconst 0, 1) := by decide +kernel
theorem dw_590 : decode code 590 = .ok (.ireturn, 1) := by decide +kernel
theorem dw_591 : decode code 591 = .ok (.iload 5, 2) := by decide +kernel
theorem dw_593 : decode code 593 = .ok (.ifCond .ne 14, 3) := by decide +kernel
theorem dw_596 : decode code 596 = .ok (.aload_n 3, 1) := by decide +kernel
theorem dw_597 : decode code 597 = .ok (.iconst 0, 1) := by decide +kernel
theorem dw_598 : decode code 598 = .ok (.laload, 1) := by decide +kernel
theorem dw_599 : decode code 599 = .ok (.lload 6, 2) := by decide +kernel
theorem dw_601 : decode code 601 = .ok (.lcmp, 1) := by decide +kernel
theorem dw_602 : decode code 602 = .ok (.ifCond .eq 5, 3) := by decide +kernel
theorem dw_605 : decode code 605 = .ok (.iconst 0, 1) := by decide +kernel
theorem dw_606 : decode code 606 = .ok (.ireturn, 1) := by decide +kernel
theorem dw_607 : decode code 607 = .ok (.goto 1115, 3) := by decide +kernel
theorem dw_610 : decode code 610 = .ok (.aload_n 1, 1) := by decide +kernel
theorem dw_611 : decode code 611 = .ok (.aload_n 0, 1) := by decide +kernel
theorem dw_612 : decode code 612 = .ok (.iload 4, 2) := by decide +kernel
theorem dw_614 : decode code 614 = .ok (.iconst 1, 1) := by decide +kernel
theorem dw_615 : decode code 615 = .ok (.iadd, 1) := by decide +kernel
theorem dw_616 : decode code 616 = .ok (.iaload, 1) := by decide +kernel
theorem dw_617 : decode code 617 = .ok (.aload_n 0, 1) := by decide +kernel
theorem dw_618 : decode code 618 = .ok (.iload 4, 2) := by decide +kernel
theorem dw_620 : decode code 620 = .ok (.iconst 2, 1) := by decide +kernel
theorem dw_621 : decode code 621 = .ok (.iadd, 1) := by decide +kernel
theorem dw_622 : decode code 622 = .ok (.iaload, 1) := by decide +kernel
theorem dw_623 : decode code 623 = .ok (.aload_n 3, 1) := by decide +kernel
theorem dw_624 : decode code 624 = .ok (.invokestatic 108, 3) := by decide +kernel
theorem dw_627 : decode code 627 = .ok (.istore 5, 2) := by decide +kernel
theorem dw_629 : decode code 629 = .ok (.aload_n 2, 1) := by decide +kernel
theorem dw_630 : decode code 630 = .ok (.aload_n 0, 1) := by decide +kernel
theorem dw_631 : decode code 631 = .ok (.iload 4, 2) := by decide +kernel
theorem dw_633 : decode code 633 = .ok (.iconst 1, 1) := by decide +kernel
theorem dw_634 : decode code 634 = .ok (.iadd, 1) := by decide +kernel
theorem dw_635 : decode code 635 = .ok (.iaload, 1) := by decide +kernel
theorem dw_636 : decode code 636 = .ok (.aload_n 0, 1) := by decide +kernel
theorem dw_637 : decode code 637 = .ok (.iload 4, 2) := by decide +kernel
theorem dw_639 : decode code 639 = .ok (.iconst 2, 1) := by decide +kernel
theorem dw_640 : decode code 640 = .ok (.iadd, 1) := by decide +kernel
theorem dw_641 : decode code 641 = .ok (.iaload, 1) := by decide +kernel
theorem dw_642 : decode code 642 = .ok (.invokevirtual 111, 3) := by decide +kernel
theorem dw_645 : decode code 645 = .ok (.lstore 6, 2) := by decide +kernel
theorem dw_647 : decode code 647 = .ok (.aload_n 2, 1) := by decide +kernel
theorem dw_648 : decode code 648 = .ok (.invokevirtual 105, 3) := by decide +kernel
theorem dw_651 : decode code 651 = .ok (.iload 5, 2) := by decide +kernel
theorem dw_653 : decode code 653 = .ok (.if_icmp .eq 5, 3) := by decide +kernel
theorem dw_656 : decode code 656 = .ok (.iconst 0, 1) := by decide +kernel
theorem dw_657 : decode code 657 = .ok (.ireturn, 1) := by decide +kernel
theorem dw_658 : decode code 658 = .ok (.iload 5, 2) := by decide +kernel
theorem dw_660 : decode code 660 = .ok (.ifCond .ne 14, 3) := by decide +kernel
theorem dw_663 : decode code 663 = .ok (.aload_n 3, 1) := by decide +kernel
theorem dw_664 : decode code 664 = .ok (.iconst 0, 1) := by decide +kernel
theorem dw_665 : decode code 665 = .ok (.laload, 1) := by decide +kernel
theorem dw_666 : decode code 666 = .ok (.lload 6, 2) := by decide +kernel
theorem dw_668 : decode code 668 = .ok (.lcmp, 1) := by decide +kernel
theorem dw_669 : decode code 669 = .ok (.ifCond .eq 5, 3) := by decide +kernel
theorem dw_672 : decode code 672 = .ok (.iconst 0, 1) := by decide +kernel
theorem dw_673 : decode code 673 = .ok (.ireturn, 1) := by decide +kernel
theorem dw_674 : decode code 674 = .ok (.goto 1048, 3) := by decide +kernel
theorem dw_677 : decode code 677 = .ok (.aload_n 1, 1) := by decide +kernel
theorem dw_678 : decode code 678 = .ok (.invokevirtual 112, 3) := by decide +kernel
theorem dw_681 : decode code 681 = .ok (.aload_n 2, 1) := by decide +kernel
theorem dw_682 : decode code 682 = .ok (.invokevirtual 115, 3) := by decide +kernel
theorem dw_685 : decode code 685 = .ok (.if_icmp .eq 1037, 3) := by decide +kernel
theorem dw_688 : decode code 688 = .ok (.iconst 0, 1) := by decide +kernel
theorem dw_689 : decode code 689 = .ok (.ireturn, 1) := by decide +kernel
theorem dw_690 : decode code 690 = .ok (.aload_n 1, 1) := by decide +kernel
theorem dw_691 : decode code 691 = .ok (.invokevirtual 116, 3) := by decide +kernel
theorem dw_694 : decode code 694 = .ok (.aload_n 2, 1) := by decide +kernel
theorem dw_695 : decode code 695 = .ok (.invokevirtual 119, 3) := by decide +kernel
theorem dw_698 : decode code 698 = .ok (.if_icmp .eq 1024, 3) := by decide +kernel
theorem dw_701 : decode code 701 = .ok (.iconst 0, 1) := by decide +kernel
theorem dw_702 : decode code 702 = .ok (.ireturn, 1) := by decide +kernel
theorem dw_703 : decode code 703 = .ok (.aload_n 1, 1) := by decide +kernel
theorem dw_704 : decode code 704 = .ok (.invokevirtual 120, 3) := by decide +kernel
theorem dw_707 : decode code 707 = .ok (.aload_n 2, 1) := by decide +kernel
theorem dw_708 : decode code 708 = .ok (.invokevirtual 123, 3) := by decide +kernel
theorem dw_711 : decode code 711 = .ok (.if_icmp .eq 1011, 3) := by decide +kernel
theorem dw_714 : decode code 714 = .ok (.iconst 0, 1) := by decide +kernel
theorem dw_715 : decode code 715 = .ok (.ireturn, 1) := by decide +kernel
theorem dw_716 : decode code 716 = .ok (.aload_n 1, 1) := by decide +kernel
theorem dw_717 : decode code 717 = .ok (.invokevirtual 124, 3) := by decide +kernel
theorem dw_720 : decode code 720 = .ok (.aload_n 2, 1) := by decide +kernel
theorem dw_721 : decode code 721 = .ok (.invokevirtual 127, 3) := by decide +kernel
theorem dw_724 : decode code 724 = .ok (.if_icmp .eq 998, 3) := by decide +kernel
theorem dw_727 : decode code 727 = .ok (.iconst 0, 1) := by decide +kernel
theorem dw_728 : decode code 728 = .ok (.ireturn, 1) := by decide +kernel
theorem dw_729 : decode code 729 = .ok (.aload_n 1, 1) := by decide +kernel
theorem dw_730 : decode code 730 = .ok (.invokevirtual 128, 3) := by decide +kernel
theorem dw_733 : decode code 733 = .ok (.aload_n 2, 1) := by decide +kernel
theorem dw_734 : decode code 734 = .ok (.invokevirtual 131, 3) := by decide +kernel
theorem dw_737 : decode code 737 = .ok (.if_icmp .eq 985, 3) := by decide +kernel
theorem dw_740 : decode code 740 = .ok (.iconst 0, 1) := by decide +kernel
theorem dw_741 : decode code 741 = .ok (.ireturn, 1) := by decide +kernel
theorem dw_742 : decode code 742 = .ok (.aload_n 1, 1) := by decide +kernel
theorem dw_743 : decode code 743 = .ok (.aload_n 0, 1) := by decide +kernel
theorem dw_744 : decode code 744 = .ok (.iload 4, 2) := by decide +kernel
theorem dw_746 : decode code 746 = .ok (.iconst 1, 1) := by decide +kernel
theorem dw_747 : decode code 747 = .ok (.iadd, 1) := by decide +kernel
theorem dw_748 : decode code 748 = .ok (.iaload, 1) := by decide +kernel
theorem dw_749 : decode code 749 = .ok (.aload_n 0, 1) := by decide +kernel
theorem dw_750 : decode code 750 = .ok (.iload 4, 2) := by decide +kernel
theorem dw_752 : decode code 752 = .ok (.iconst 2, 1) := by decide +kernel
theorem dw_753 : decode code 753 = .ok (.iadd, 1) := by decide +kernel
theorem dw_754 : decode code 754 = .ok (.iaload, 1) := by decide +kernel
theorem dw_755 : decode code 755 = .ok (.aload_n 3, 1) := by decide +kernel
theorem dw_756 : decode code 756 = .ok (.invokestatic 132, 3) := by decide +kernel
theorem dw_759 : decode code 759 = .ok (.istore 5, 2) := by decide +kernel
theorem dw_761 : decode code 761 = .ok (.aload_n 2, 1) := by decide +kernel
