import java.util.ArrayList;
import java.util.List;
import java.util.NoSuchElementException;
import java.util.Random;

/** Promises 1 to 13 on runs of as many calls as an object is used for, against the answers of the Oracle. */
public final class OracleTest {
    private static final int CALLS = 512;
    private static final int SEEDS = 40;

    private interface Answer {
        long get();
    }

    private final Random random;
    private final int reach;
    private final String run;
    private final CircleCells subject = new CircleCells();
    private final List<int[]> sites = new ArrayList<>();
    private Oracle oracle = new Oracle(sites);
    private boolean stale = false;

    private OracleTest(int seed, int reach) {
        this.random = new Random(seed);
        this.reach = reach;
        this.run = "seed " + seed + ", reach " + reach + ": ";
    }

    public static void main(String[] args) {
        int[] reaches = {1, 2, 3, 5, 10, 40, 400};
        for (int reach : reaches) {
            for (int seed = 0; seed < SEEDS; seed++) {
                new OracleTest(seed, reach).play();
            }
        }
        Check.end("OracleTest");
    }

    private void play() {
        for (int call = 0; call < CALLS; call++) {
            if (random.nextInt(6) == 0) {
                change();
                stale = true;
            } else {
                refresh();
                ask(random.nextInt(10));
            }
        }
    }

    private void refresh() {
        if (stale) {
            oracle = new Oracle(sites);
            stale = false;
        }
    }

    private int coordinate() {
        return random.nextInt(100) == 0 ? 401 : random.nextInt(2 * reach + 1) - reach;
    }

    /** From -2 to one more than there is. */
    private int index(int count) {
        return random.nextInt(15) == 0 ? -2 + random.nextInt(2) : random.nextInt(count + 1);
    }

    private void change() {
        int kind = random.nextInt(100);
        if (kind < 60) {
            add(coordinate(), coordinate());
        } else if (kind < 75) {
            remove(index(sites.size()));
        } else if (kind < 99) {
            move(index(sites.size()), coordinate(), coordinate());
        } else {
            subject.clear();
            sites.clear();
        }
    }

    private void add(int x, int y) {
        String call = run + "site(" + x + ", " + y + ")";
        if (outside(x, y) || at(x, y) >= 0) {
            Check.dueThrow(call, IllegalArgumentException.class, () -> subject.site(x, y));
        } else if (sites.size() == 20) {
            Check.dueThrow(call, IllegalStateException.class, () -> subject.site(x, y));
        } else {
            Check.due(call, subject.site(x, y), sites.size());
            sites.add(new int[] {x, y});
        }
    }

    private void remove(int site) {
        if (!has(site, sites.size())) {
            Check.dueThrow(run + "remove(" + site + ")", IllegalArgumentException.class, () -> subject.remove(site));
        } else {
            subject.remove(site);
            sites.remove(site);
        }
    }

    private void move(int site, int x, int y) {
        int there = at(x, y);
        if (!has(site, sites.size()) || outside(x, y) || there >= 0 && there != site) {
            Check.dueThrow(run + "move(" + site + ", " + x + ", " + y + ")", IllegalArgumentException.class,
                () -> subject.move(site, x, y));
        } else {
            subject.move(site, x, y);
            sites.set(site, new int[] {x, y});
        }
    }

    private static boolean has(int i, int count) {
        return i >= 0 && i < count;
    }

    private static boolean outside(int x, int y) {
        return Math.abs(x) > 400 || Math.abs(y) > 400;
    }

    private int at(int x, int y) {
        for (int s = 0; s < sites.size(); s++) {
            if (sites.get(s)[0] == x && sites.get(s)[1] == y) {
                return s;
            }
        }
        return -1;
    }

    private void ask(int kind) {
        switch (kind) {
            case 0 -> askWhere(index(sites.size()), index(2));
            case 1 -> Check.due(run + "cells()", subject.cells(), oracle.cells.size());
            case 2 -> askHull(index(oracle.hull.size()));
            case 3, 4 -> askAround(coordinate(), coordinate());
            case 5 -> askNearest(coordinate(), coordinate());
            default -> askOfCell(kind, index(oracle.cells.size()));
        }
    }

    private void askOfCell(int kind, int cell) {
        int count = has(cell, oracle.cells.size()) ? oracle.cells.get(cell).size() : 3;
        if (kind == 6) {
            askCentre(cell, index(3));
        } else if (kind == 7) {
            askBeside(cell, index(count), count);
        } else {
            askCell(cell, index(count), count);
        }
    }

    private void compare(String call, Answer got, boolean throwsIt, Class<? extends RuntimeException> which, Answer want) {
        if (throwsIt) {
            Check.dueThrow(run + call, which, got::get);
        } else {
            Check.due(run + call, got.get(), want.get());
        }
    }

    private void askWhere(int site, int what) {
        compare("where(" + site + ", " + what + ")", () -> subject.where(site, what),
            !has(site, sites.size()) || !has(what, 2), IllegalArgumentException.class, () -> sites.get(site)[what]);
    }

    private void askHull(int i) {
        compare("hull(" + i + ")", () -> subject.hull(i),
            i != -1 && !has(i, oracle.hull.size()), IndexOutOfBoundsException.class,
            () -> i == -1 ? oracle.hull.size() : oracle.hull.get(i));
    }

    private void askAround(int x, int y) {
        compare("around(" + x + ", " + y + ")", () -> subject.around(x, y),
            outside(x, y), IllegalArgumentException.class, () -> oracle.around(x, y));
    }

    private void askNearest(int x, int y) {
        compare("nearest(" + x + ", " + y + ")", () -> subject.nearest(x, y), outside(x, y) || sites.isEmpty(),
            outside(x, y) ? IllegalArgumentException.class : IllegalStateException.class, () -> oracle.nearest(x, y));
    }

    private void askCentre(int cell, int what) {
        compare("centre(" + cell + ", " + what + ")", () -> subject.centre(cell, what),
            !has(what, 3) || !has(cell, oracle.cells.size()),
            has(what, 3) ? NoSuchElementException.class : IllegalArgumentException.class, () -> oracle.centre(cell, what));
    }

    private void askBeside(int cell, int i, int count) {
        boolean known = has(cell, oracle.cells.size());
        compare("beside(" + cell + ", " + i + ")", () -> subject.beside(cell, i), !known || !has(i, count),
            known ? IndexOutOfBoundsException.class : NoSuchElementException.class, () -> oracle.beside(cell, i));
    }

    private void askCell(int cell, int i, int count) {
        boolean known = has(cell, oracle.cells.size());
        compare("cell(" + cell + ", " + i + ")", () -> subject.cell(cell, i), !known || i != -1 && !has(i, count),
            known ? IndexOutOfBoundsException.class : NoSuchElementException.class,
            () -> i == -1 ? count : oracle.cells.get(cell).get(i));
    }
}
