import java.util.ArrayList;
import java.util.List;

/** A second TideLots, written apart from it in the most literal way: each fish is a thing of its own. */
final class PlainShore {
    PlainText text = new PlainText(new byte[0]);
    byte[] tape = new byte[0];
    int errorAt = -1;
    int tide = 0;
    long l = 1;
    List<List<Integer>> fish = new ArrayList<>();
    int[] boats = {};
    int[] groundCaught = {};
    int[] meshes = {};
    int[] stores = {};
    int[] latest = {};
    int[] places = {};
    int[] tears = {};
    int[] fisherCaught = {};
    boolean[] cheats = {};
    int[][] took = {};
    int[] shown = {};
    int[] hidden = {};
    int[] hidingTides = {};

    PlainShore copy() {
        PlainShore copy = new PlainShore();
        copy.text = text;
        copy.tape = tape.clone();
        copy.errorAt = errorAt;
        copy.tide = tide;
        copy.l = l;
        for (List<Integer> there : fish) {
            copy.fish.add(new ArrayList<>(there));
        }
        copy.boats = boats.clone();
        copy.groundCaught = groundCaught.clone();
        copy.meshes = meshes.clone();
        copy.stores = stores.clone();
        copy.latest = latest.clone();
        copy.places = places.clone();
        copy.tears = tears.clone();
        copy.fisherCaught = fisherCaught.clone();
        copy.cheats = cheats.clone();
        copy.took = new int[took.length][];
        for (int i = 0; i < took.length; i++) {
            copy.took[i] = took[i].clone();
        }
        copy.shown = shown.clone();
        copy.hidden = hidden.clone();
        copy.hidingTides = hidingTides.clone();
        return copy;
    }

    int grounds() {
        return fish.size();
    }

    int fishers() {
        return meshes.length;
    }

    int pacts() {
        return shown.length;
    }

    int fishAt(int ground) {
        return fish.get(ground).size();
    }

    int fishOf(int ground, int size) {
        return (int) fish.get(ground).stream().filter(one -> one == size).count();
    }

    int all(int[] numbers) {
        return java.util.Arrays.stream(numbers).sum();
    }

    // ---- the language

    int feed(int... fives) {
        if (tape.length > 1980) {
            throw new IllegalStateException();
        }
        byte[] longer = java.util.Arrays.copyOf(tape, tape.length + 20);
        java.nio.ByteBuffer.wrap(longer, tape.length, 20).asIntBuffer().put(fives);
        tape = longer;
        return tape.length;
    }

    int trim(int n) {
        if (n < 0 || n > tape.length) {
            throw new IllegalArgumentException();
        }
        tape = java.util.Arrays.copyOf(tape, n);
        return n;
    }

    int teach() {
        PlainText read = new PlainText(tape);
        tape = new byte[0];
        errorAt = read.errorAt;
        if (read.error != 0) {
            return read.error;
        }
        text = read;
        fish = new ArrayList<>();
        for (int[] ground : read.grounds) {
            List<Integer> there = new ArrayList<>();
            for (int size = 1; size <= 5; size++) {
                for (int i = 0; i < ground[size]; i++) {
                    there.add(size);
                }
            }
            fish.add(there);
        }
        int grounds = read.grounds.size();
        int fishers = read.fishers.size();
        int pacts = read.pacts.size();
        boats = new int[grounds];
        groundCaught = new int[grounds];
        meshes = read.fishers.stream().mapToInt(told -> told[0]).toArray();
        stores = new int[fishers];
        latest = new int[fishers];
        places = new int[fishers];
        java.util.Arrays.fill(places, -1);
        tears = new int[fishers];
        fisherCaught = new int[fishers];
        cheats = new boolean[fishers];
        took = new int[grounds][fishers];
        shown = new int[pacts];
        hidden = new int[pacts];
        hidingTides = new int[pacts];
        return 0;
    }

    int count(int what) {
        int[] numbers = {tide, grounds(), fishers(), text.goes.size(), pacts(),
            fish.stream().mapToInt(List::size).sum(), all(stores), wider(), cheatCount(), tape.length};
        return pick(numbers, what);
    }

    private int wider() {
        int wider = 0;
        for (int i = 0; i < fishers(); i++) {
            wider += meshes[i] > text.fishers.get(i)[0] ? 1 : 0;
        }
        return wider;
    }

    private int cheatCount() {
        int count = 0;
        for (boolean isCheat : cheats) {
            count += isCheat ? 1 : 0;
        }
        return count;
    }

    private static int pick(int[] numbers, int what) {
        if (what < 0 || what >= numbers.length) {
            throw new IndexOutOfBoundsException();
        }
        return numbers[what];
    }

    private static void check(int number, int count) {
        if (number < 0 || number >= count) {
            throw new IndexOutOfBoundsException();
        }
    }

    // ---- grounds, fishers, pacts

    int ground(int ground, int what) {
        check(ground, grounds());
        int[] numbers = {fishAt(ground), fishOf(ground, 1), fishOf(ground, 2), fishOf(ground, 3), fishOf(ground, 4),
            fishOf(ground, 5), text.grounds.get(ground)[0], boats[ground], groundCaught[ground]};
        return pick(numbers, what);
    }

    int fisher(int fisher, int what) {
        check(fisher, fishers());
        int[] told = text.fishers.get(fisher);
        int[] numbers = {meshes[fisher], told[0], told[1], told[2], stores[fisher], latest[fisher], places[fisher],
            tears[fisher], cheats[fisher] ? 1 : 0, fisherCaught[fisher]};
        return pick(numbers, what);
    }

    int pact(int pact, int what) {
        check(pact, pacts());
        PlainText.Pact told = text.pacts.get(pact);
        int[] numbers = {told.below() == null ? 0 : 1, told.ground(), told.fishers().size(), told.fishers().get(0),
            shown[pact], hidden[pact], hidingTides[pact]};
        return pick(numbers, what);
    }

    int cheat(int fisher, boolean isCheat) {
        check(fisher, fishers());
        cheats[fisher] = isCheat;
        return cheatCount();
    }

    int mend(int fisher) {
        check(fisher, fishers());
        int told = text.fishers.get(fisher)[0];
        if (meshes[fisher] == told || stores[fisher] < 3) {
            throw new IllegalStateException();
        }
        meshes[fisher] = told;
        stores[fisher] -= 3;
        return stores[fisher];
    }

    int lot(int lot) {
        check(lot, fishers());
        return copy().draw().get(lot);
    }

    int took(int ground, int fisher) {
        check(ground, grounds());
        check(fisher, fishers());
        return took[ground][fisher];
    }

    int blame(int ground) {
        check(ground, grounds());
        int blamed = -1;
        for (int i = fishers() - 1; i >= 0; i--) {
            boolean isMore = blamed < 0 ? took[ground][i] > 0 : took[ground][i] >= took[ground][blamed];
            blamed = isMore ? i : blamed;
        }
        return blamed;
    }

    int gap() {
        int[] sorted = stores.clone();
        java.util.Arrays.sort(sorted);
        return sorted.length == 0 ? 0 : sorted[sorted.length - 1] - sorted[0];
    }

    // ---- tides

    private List<Integer> draw() {
        List<Integer> row = new ArrayList<>();
        for (int i = 0; i < fishers(); i++) {
            row.add(i);
        }
        List<Integer> lots = new ArrayList<>();
        while (!row.isEmpty()) {
            l = (l * 69069 + 1) & 0xffffffffL;
            lots.add(row.remove((int) ((l >> 16) % row.size())));
        }
        return lots;
    }

    int pass(int tides) {
        checkTides(tides, 60);
        int before = all(stores);
        for (int i = 0; i < tides; i++) {
            tide();
        }
        return all(stores) - before;
    }

    private static void checkTides(int tides, int most) {
        if (tides < 1 || tides > most) {
            throw new IllegalArgumentException();
        }
    }

    private void tide() {
        List<Integer> lots = draw();
        java.util.Arrays.fill(boats, 0);
        for (int fisher : lots) {
            places[fisher] = -1;
            for (PlainText.Go go : text.goes) {
                if (go.fisher() == fisher && places[fisher] < 0 && canGo(go)) {
                    places[fisher] = go.ground();
                }
            }
            latest[fisher] = 0;
            if (places[fisher] >= 0) {
                boats[places[fisher]]++;
                haul(fisher, places[fisher]);
            }
        }
        for (int pact = 0; pact < pacts(); pact++) {
            if (text.pacts.get(pact).below() == null) {
                split(pact, text.pacts.get(pact).fishers());
            }
        }
        for (int i = 0; i < fishers(); i++) {
            stores[i] += latest[i];
        }
        for (int i = 0; i < grounds(); i++) {
            shoal(i);
        }
        tide++;
    }

    private boolean canGo(PlainText.Go go) {
        if (boats[go.ground()] >= text.grounds.get(go.ground())[0] || go.test() != null && go.test().of(this) == 0) {
            return false;
        }
        for (PlainText.Pact pact : text.pacts) {
            boolean spares = pact.ground() == go.ground() && pact.fishers().contains(go.fisher())
                    && fishAt(go.ground()) < pact.below().of(this);
            if (spares && !cheats[go.fisher()]) {
                return false;
            }
        }
        return true;
    }

    private void haul(int fisher, int ground) {
        int strength = text.fishers.get(fisher)[1];
        int hold = text.fishers.get(fisher)[2];
        List<Integer> there = fish.get(ground);
        List<Integer> caught = new ArrayList<>();
        for (int size = 5; size >= meshes[fisher]; size--) {
            while (there.contains(size) && caught.size() < hold) {
                int weight = caught.stream().mapToInt(one -> one).sum();
                if (weight + size > strength) {
                    meshes[fisher] = Math.min(6, meshes[fisher] + 1);
                    tears[fisher]++;
                    for (int one : caught) {
                        if (one < meshes[fisher]) {
                            there.add(one);
                        }
                    }
                    caught.removeIf(one -> one < meshes[fisher]);
                    land(fisher, ground, caught);
                    return;
                }
                there.remove((Integer) size);
                caught.add(size);
            }
        }
        land(fisher, ground, caught);
    }

    private void land(int fisher, int ground, List<Integer> caught) {
        latest[fisher] = caught.stream().mapToInt(one -> one).sum();
        groundCaught[ground] += caught.size();
        fisherCaught[fisher] += caught.size();
        took[ground][fisher] += caught.size();
    }

    private void split(int pact, List<Integer> fishers) {
        int[] hides = new int[fishers()];
        int sum = 0;
        for (int fisher : fishers) {
            int shows = cheats[fisher] ? latest[fisher] / 2 : latest[fisher];
            hides[fisher] = latest[fisher] - shows;
            sum += shows;
        }
        for (int fisher : fishers) {
            latest[fisher] = sum / fishers.size() + hides[fisher];
        }
        latest[fishers.get(0)] += sum % fishers.size();
        shown[pact] += sum;
        hidden[pact] += all(hides);
        hidingTides[pact] += all(hides) > 0 ? 1 : 0;
    }

    private void shoal(int ground) {
        List<Integer> there = fish.get(ground);
        for (int size = 4; size >= 1; size--) {
            int grown = fishOf(ground, size) / 5;
            for (int i = 0; i < grown; i++) {
                there.remove((Integer) size);
                there.add(size + 1);
            }
            keepAtMost99(there, size + 1);
        }
        int young = there.size() / 6;
        for (int i = 0; i < young; i++) {
            there.add(1);
        }
        keepAtMost99(there, 1);
    }

    private static void keepAtMost99(List<Integer> there, int size) {
        while (there.stream().filter(one -> one == size).count() > 99) {
            there.remove((Integer) size);
        }
    }

    // ---- looking ahead

    int foresee(int tides, int what) {
        checkTides(tides, 60);
        check(what, 3);
        PlainShore ahead = copy();
        ahead.pass(tides);
        return what == 0 ? ahead.count(6) : what == 1 ? ahead.count(5) : ahead.gap();
    }

    int pays(int fisher, int tides) {
        check(fisher, fishers());
        checkTides(tides, 60);
        PlainShore asCheat = copy();
        asCheat.cheat(fisher, true);
        asCheat.pass(tides);
        PlainShore asHonest = copy();
        asHonest.cheat(fisher, false);
        asHonest.pass(tides);
        return asCheat.stores[fisher] - asHonest.stores[fisher];
    }

    int empty(int ground) {
        check(ground, grounds());
        PlainShore ahead = copy();
        int tides = 0;
        while (tides < 100 && ahead.fishAt(ground) > 0) {
            ahead.pass(1);
            tides++;
        }
        return ahead.fishAt(ground) == 0 ? tides : -1;
    }

    int advise(int fisher, int tides) {
        check(fisher, fishers());
        checkTides(tides, 40);
        int best = 5;
        int most = -1;
        for (int mesh = 5; mesh >= 1; mesh--) {
            PlainShore ahead = copy();
            ahead.meshes[fisher] = mesh;
            ahead.pass(tides);
            if (ahead.stores[fisher] >= most) {
                most = ahead.stores[fisher];
                best = mesh;
            }
        }
        return best;
    }

    double mean() {
        return fishers() == 0 ? 0 : all(stores) / (double) fishers();
    }

    long digest() {
        List<Integer> told = new ArrayList<>();
        for (int what = 0; what <= 9; what++) {
            told.add(count(what));
        }
        for (int i = 0; i < grounds(); i++) {
            for (int what = 0; what <= 8; what++) {
                told.add(ground(i, what));
            }
            for (int fisher = 0; fisher < fishers(); fisher++) {
                told.add(took(i, fisher));
            }
        }
        for (int i = 0; i < fishers(); i++) {
            for (int what = 0; what <= 9; what++) {
                told.add(fisher(i, what));
            }
        }
        for (int i = 0; i < pacts(); i++) {
            for (int what = 0; what <= 6; what++) {
                told.add(pact(i, what));
            }
        }
        told.addAll(copy().draw());
        long d = 739;
        for (int x : told) {
            d = d * 31 + x;
        }
        return d;
    }
}
