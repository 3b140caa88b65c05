import java.util.ArrayList;
import java.util.Arrays;
import java.util.Comparator;
import java.util.HashSet;
import java.util.LinkedHashMap;
import java.util.List;
import java.util.Map;
import java.util.Set;
import java.util.TreeMap;
import java.util.TreeSet;

/**
 * The document said again with the Java library and without regard to cost: all ways are listed and sorted, so
 * that a slip in the class is not likely to be made here in the same way.
 */
final class Model {
    private static final List<Integer> COLUMN_ORDER = List.of(0, 3, 6, 9, 1, 4, 7, 10, 2, 5, 8, 11);
    private static final List<int[]> GRIDS = allGrids();

    private record Ad(int category, int width, int height, boolean colour, int section, int zone) {
    }

    private record Tale(int section, String lines, int least) {
    }

    private record Run(int page, List<Integer> cells) {
    }

    private record Way(int n, int m, List<Run> runs) {
    }

    private record Edition(Map<Integer, Integer> cells, int minute) {
    }

    private record Text(Set<Integer> words, int priority) {
    }

    private record Truck(int minute, int copies, int number) {
    }

    /** The cells that are taken, by 100 * page + cell. */
    private final Map<Integer, Integer> taken = new TreeMap<>();
    private final Map<Integer, Integer> sections = new LinkedHashMap<>();
    private final Set<Integer> coloured = new HashSet<>();
    private final Set<Integer> touchedPlates = new HashSet<>();
    private final Map<Integer, Integer> distances = new LinkedHashMap<>();
    private final List<Ad> ads = new ArrayList<>();
    private final Map<Integer, Integer> places = new LinkedHashMap<>();
    private final List<Tale> tales = new ArrayList<>();
    private final Map<Integer, Way> laid = new LinkedHashMap<>();
    private final Set<Integer> gone = new HashSet<>();
    private final Set<List<Integer>> signatures = new HashSet<>();
    private final Set<List<Integer>> holds = new HashSet<>();
    private final List<Edition> archive = new ArrayList<>();
    private final List<Integer> owed = new ArrayList<>();
    private int now;
    private final List<Truck> trucks = new ArrayList<>();
    private final List<int[]> words = new ArrayList<>();
    private final int[] weights = new int[6];
    private final List<Text> texts = new ArrayList<>();
    private final int[] puzzle = new int[16];

    int advertCount() {
        return ads.size();
    }

    int storyCount() {
        return tales.size();
    }

    int editionCount() {
        return archive.size();
    }

    int truckCount() {
        return trucks.size();
    }

    private static void exists(boolean... all) {
        for (boolean each : all) {
            if (!each) {
                throw new IndexOutOfBoundsException();
            }
        }
    }

    private static void inRange(boolean... all) {
        for (boolean each : all) {
            if (!each) {
                throw new IllegalArgumentException();
            }
        }
    }

    private static void possible(boolean... all) {
        for (boolean each : all) {
            if (!each) {
                throw new IllegalStateException();
            }
        }
    }

    private static boolean within(int value, int low, int high) {
        return low <= value && value <= high;
    }

    private boolean bare(int page) {
        return taken.keySet().stream().noneMatch(key -> key / 100 == page);
    }

    private void set(int page, int cell, int mark) {
        if (mark == 0) {
            taken.remove(100 * page + cell);
        } else {
            taken.put(100 * page + cell, mark);
        }
        touchedPlates.add(page / 2);
        signatures.removeIf(each -> each.get(0) == page);
    }

    private void wipe(int mark) {
        for (int key : List.copyOf(taken.keySet())) {
            if (taken.get(key) == mark) {
                set(key / 100, key % 100, 0);
            }
        }
    }

    int page(int page, int section, boolean colour) {
        exists(within(page, 0, 9));
        inRange(within(section, 0, 3));
        possible(bare(page));
        sections.put(page, section);
        coloured.remove(page);
        if (colour) {
            coloured.add(page);
        }
        return 0;
    }

    int cell(int page, int cell) {
        exists(within(page, 0, 9), within(cell, 0, 11));
        return taken.getOrDefault(100 * page + cell, 0);
    }

    int touched() {
        return touchedPlates.stream().mapToInt(plate -> (int) Math.pow(2, plate)).sum();
    }

    int distance(int category, int distance) {
        inRange(within(category, 0, 3), within(distance, 0, 9));
        Integer before = distances.put(category, distance);
        return before == null ? 1 : before;
    }

    int advert(int category, int width, int height, boolean colour, int section, int zone) {
        inRange(within(category, 0, 3), within(width, 1, 3), within(height, 1, 4), within(section, -1, 3),
                within(zone, -1, 2));
        possible(ads.size() < 20);
        ads.add(new Ad(category, width, height, colour, section, zone));
        return ads.size() - 1;
    }

    private static int apart(int one, int other) {
        return one != other && one > 6 && other > 6 ? 10 : Math.abs(one - other);
    }

    private boolean fits(Ad ad, int page) {
        List<Integer> open = ad.zone == -1 ? List.of(0, 1, 2, 3, 4, 5, 6) : List.of(7 + ad.zone);
        return open.contains(page)
                && (ad.section == -1 || ad.section == sections.getOrDefault(page, 0))
                && (!ad.colour || coloured.contains(page))
                && places.entrySet().stream().filter(each -> ads.get(each.getKey()).category == ad.category)
                        .allMatch(each -> apart(each.getValue() / 100, page) >= distances.getOrDefault(ad.category, 1));
    }

    private static List<Integer> rectangle(Ad ad, int first) {
        List<Integer> cells = new ArrayList<>();
        for (int cell = 0; cell < 12; cell++) {
            if (within(cell / 3, first / 3, first / 3 + ad.height - 1)
                    && within(cell % 3, first % 3, first % 3 + ad.width - 1)) {
                cells.add(cell);
            }
        }
        return cells;
    }

    int place(int advert) {
        exists(within(advert, 0, ads.size() - 1));
        possible(!places.containsKey(advert));
        Ad ad = ads.get(advert);
        for (int place = 0; place < 1000; place++) {
            int page = place / 100;
            int first = place % 100;
            if (first > 11 || !fits(ad, page)) {
                continue;
            }
            List<Integer> cells = rectangle(ad, first);
            if (cells.size() == ad.width * ad.height
                    && cells.stream().noneMatch(cell -> taken.containsKey(100 * page + cell))) {
                cells.forEach(cell -> set(page, cell, 100 + advert));
                places.put(advert, place);
                return place;
            }
        }
        return -1;
    }

    int takeOff(int advert) {
        exists(within(advert, 0, ads.size() - 1));
        possible(places.containsKey(advert));
        wipe(100 + advert);
        return places.remove(advert);
    }

    int advertsIn(int zone) {
        exists(within(zone, 0, 2));
        return (int) places.values().stream().filter(place -> place < 700 || place / 100 == 7 + zone).count();
    }

    int story(int section, int lines, int least) {
        String digits = Integer.toString(lines);
        inRange(within(section, 0, 3), digits.matches("[1-9]{1,6}"), within(least, 1, digits.length()));
        possible(tales.size() < 20);
        tales.add(new Tale(section, digits, least));
        return tales.size() - 1;
    }

    private static int cellsOf(String lines) {
        int sum = lines.chars().map(each -> each - '0').sum();
        return (int) Math.ceil(sum / 5.0);
    }

    /** The first cells of a page for these lines, as a list of none or one. */
    private List<Run> runs(int page, int section, String lines, Set<Integer> free) {
        int size = cellsOf(lines);
        if (sections.getOrDefault(page, 0) == section) {
            for (int start = 0; start + size <= 12; start++) {
                List<Integer> cells = COLUMN_ORDER.subList(start, start + size);
                if (cells.stream().allMatch(cell -> free.contains(100 * page + cell))) {
                    return List.of(new Run(page, cells));
                }
            }
        }
        return List.of();
    }

    /** All ways with just n paragraphs, those on one page alone if there are any, in their order. */
    private List<Way> ways(Tale tale, int n, Set<Integer> free) {
        List<Way> onOne = new ArrayList<>();
        List<Way> onTwo = new ArrayList<>();
        for (int page = 0; page < 7; page++) {
            for (Run run : runs(page, tale.section, tale.lines.substring(0, n), free)) {
                onOne.add(new Way(n, n, List.of(run)));
            }
            for (int second = page + 1; second < 7; second++) {
                for (int m = 1; m < n; m++) {
                    for (Run ahead : runs(page, tale.section, tale.lines.substring(0, m), free)) {
                        for (Run behind : runs(second, 0, tale.lines.substring(m, n), free)) {
                            onTwo.add(new Way(n, m, List.of(ahead, behind)));
                        }
                    }
                }
            }
        }
        onTwo.sort(Comparator.comparingInt((Way way) -> -way.m).thenComparingInt(way -> way.runs.get(0).page)
                .thenComparingInt(way -> way.runs.get(1).page));
        return onOne.isEmpty() ? onTwo : onOne;
    }

    private List<Way> firstWays(Tale tale, int going) {
        Set<Integer> free = new HashSet<>();
        for (int key = 0; key < 1000; key++) {
            if (key % 100 < 12 && (!taken.containsKey(key) || taken.get(key) == going)) {
                free.add(key);
            }
        }
        for (int n = tale.lines.length(); n >= tale.least; n--) {
            List<Way> ways = ways(tale, n, free);
            if (!ways.isEmpty()) {
                return ways;
            }
        }
        return List.of();
    }

    private void putOut(int story, Way way) {
        way.runs.forEach(run -> run.cells.forEach(cell -> set(run.page, cell, 200 + story)));
        laid.put(story, way);
    }

    int lay(int story) {
        exists(within(story, 0, tales.size() - 1));
        possible(!laid.containsKey(story));
        List<Way> ways = firstWays(tales.get(story), -1);
        if (ways.isEmpty()) {
            return 0;
        }
        putOut(story, ways.get(0));
        return ways.get(0).n;
    }

    int lift(int story) {
        exists(within(story, 0, tales.size() - 1));
        possible(laid.containsKey(story));
        wipe(200 + story);
        return laid.remove(story).n;
    }

    int change(int old, int fresh) {
        exists(within(old, 0, tales.size() - 1), within(fresh, 0, tales.size() - 1));
        possible(laid.containsKey(old), !laid.containsKey(fresh));
        int best = 99;
        Way chosen = null;
        for (Way way : firstWays(tales.get(fresh), 200 + old)) {
            Set<Integer> plates = new HashSet<>();
            way.runs.forEach(run -> plates.add(run.page / 2));
            laid.get(old).runs.forEach(run -> plates.add(run.page / 2));
            plates.removeAll(touchedPlates);
            if (plates.size() < best) {
                best = plates.size();
                chosen = way;
            }
        }
        if (chosen == null) {
            return -1;
        }
        wipe(200 + old);
        laid.remove(old);
        putOut(fresh, chosen);
        return best;
    }

    int part(int story, int part) {
        exists(within(story, 0, tales.size() - 1));
        inRange(within(part, 0, 1));
        Way way = laid.get(story);
        if (way == null || way.runs.size() <= part) {
            return -1;
        }
        Run run = way.runs.get(part);
        return 10000 * run.page + 100 * run.cells.get(0) + run.cells.size();
    }

    boolean person(int person) {
        exists(within(person, 0, 5));
        if (gone.remove(person)) {
            return true;
        }
        gone.add(person);
        signatures.removeIf(each -> each.get(1) == person);
        holds.removeIf(each -> each.get(1) == person);
        return false;
    }

    int sign(int page, int person) {
        exists(within(page, 0, 9), within(person, 0, 5));
        possible(!gone.contains(person), !signatures.contains(List.of(page, person)));
        signatures.add(List.of(page, person));
        return (int) signatures.stream().filter(each -> each.get(0) == page).count();
    }

    boolean hold(int page, int person) {
        exists(within(page, 0, 9), within(person, 0, 5));
        possible(!gone.contains(person));
        if (holds.remove(List.of(page, person))) {
            return false;
        }
        return holds.add(List.of(page, person));
    }

    boolean isReady(int page) {
        exists(within(page, 0, 9));
        return holds.stream().noneMatch(each -> each.get(0) == page)
                && (bare(page) || signatures.stream().filter(each -> each.get(0) == page).count() > 1);
    }

    int close() {
        for (int page = 0; page < 10; page++) {
            possible(isReady(page));
        }
        possible(owed.isEmpty(), archive.size() < 8);
        archive.add(new Edition(new TreeMap<>(taken), now));
        touchedPlates.clear();
        return archive.size() - 1;
    }

    int printed(int edition, int page, int cell) {
        exists(within(edition, 0, archive.size() - 1), within(page, 0, 9), within(cell, 0, 11));
        return archive.get(edition).cells.getOrDefault(100 * page + cell, 0);
    }

    int correct(int edition, int story) {
        exists(within(edition, 0, archive.size() - 1), within(story, 0, tales.size() - 1));
        possible(archive.get(edition).cells.containsValue(200 + story), !owed.contains(story), owed.size() < 5);
        owed.add(story);
        return owed.size();
    }

    int placeCorrection() {
        possible(!owed.isEmpty());
        int story = owed.get(0);
        for (int key = 0; key < 700; key++) {
            if (key % 100 < 12 && sections.getOrDefault(key / 100, 0) == tales.get(story).section
                    && !taken.containsKey(key)) {
                set(key / 100, key % 100, 300 + story);
                owed.remove(0);
                return key;
            }
        }
        return -1;
    }

    int clean(int page) {
        exists(within(page, 0, 9));
        List<Integer> keys = taken.keySet().stream().filter(key -> key / 100 == page && taken.get(key) >= 300).toList();
        keys.forEach(key -> set(page, key % 100, 0));
        return keys.size();
    }

    int pass(int minutes) {
        inRange(within(minutes, 1, 100));
        now += minutes;
        return now;
    }

    int truck(int minute, int copies) {
        inRange(within(minute, 0, 1000), within(copies, 1, 5000));
        possible(trucks.size() < 6);
        trucks.add(new Truck(minute, copies, trucks.size()));
        return trucks.size() - 1;
    }

    /** Prints minute after minute, and loads the trucks one after the other. */
    int late(int edition, int truck) {
        exists(within(edition, 0, archive.size() - 1), within(truck, 0, trucks.size() - 1));
        List<Truck> order = new ArrayList<>(trucks);
        order.sort(Comparator.comparingInt(Truck::minute).thenComparingInt(Truck::number));
        int minute = archive.get(edition).minute;
        int ready = 0;
        for (Truck each : order) {
            while (ready < each.copies) {
                ready += 50;
                minute++;
            }
            ready -= each.copies;
            if (each.number == truck) {
                return minute > each.minute ? minute - each.minute : 0;
            }
        }
        throw new UnsupportedOperationException();
    }

    int word(int width, int narrow) {
        inRange(within(width, 1, 20), within(narrow, 1, width));
        possible(words.size() < 5);
        words.add(new int[] {width, narrow});
        return words.size();
    }

    /** All ways, those with long forms ahead coming first; so the first of the widest is the one. */
    private void headlines(int at, int width, int set, int most, TreeMap<Integer, Integer> found) {
        if (at == words.size()) {
            if (width <= most) {
                found.putIfAbsent(width, set);
            }
            return;
        }
        int gap = at == 0 ? 0 : 1;
        headlines(at + 1, width + gap + words.get(at)[0], set + (1 << at), most, found);
        headlines(at + 1, width + gap + words.get(at)[1], set, most, found);
    }

    int fit(int width) {
        inRange(within(width, 0, 200));
        TreeMap<Integer, Integer> found = new TreeMap<>();
        headlines(0, 0, 0, width, found);
        return found.isEmpty() ? -1 : 100 * found.lastKey() + found.lastEntry().getValue();
    }

    int dropWords() {
        int had = words.size();
        words.clear();
        return had;
    }

    int weigh(int row, int digits) {
        inRange(within(row, 0, 5), within(digits, 0, 999999));
        int before = weights[row];
        weights[row] = digits;
        return before;
    }

    int crop(int width, int height) {
        inRange(within(width, 1, 6), within(height, 1, 6));
        List<int[]> parts = new ArrayList<>();
        for (int row = 0; row + height <= 6; row++) {
            for (int column = 0; column + width <= 6; column++) {
                int sum = 0;
                for (int down = 0; down < height; down++) {
                    String digits = String.format("%06d", weights[row + down]).substring(column, column + width);
                    sum += digits.chars().map(each -> each - '0').sum();
                }
                parts.add(new int[] {sum, row, column});
            }
        }
        parts.sort(Comparator.comparingInt((int[] each) -> -each[0]).thenComparingInt(each -> each[1])
                .thenComparingInt(each -> each[2]));
        int[] first = parts.get(0);
        return 100 * first[0] + 10 * first[1] + first[2];
    }

    private static Set<Integer> wordsOf(int set) {
        Set<Integer> result = new TreeSet<>();
        for (int i = 0; i < 16; i++) {
            if ((set >> i) % 2 == 1) {
                result.add(i);
            }
        }
        return result;
    }

    int wire(int set, int priority) {
        inRange(within(set, 0, 65535), within(priority, 0, 9));
        for (int i = 0; i < texts.size(); i++) {
            Text other = texts.get(i);
            Set<Integer> both = wordsOf(set);
            both.retainAll(other.words);
            Set<Integer> either = wordsOf(set);
            either.addAll(other.words);
            if (both.size() >= 3 && both.size() >= either.size() / 2.0) {
                texts.set(i, new Text(either, Math.max(priority, other.priority)));
                return i;
            }
        }
        possible(texts.size() < 12);
        texts.add(new Text(wordsOf(set), priority));
        return texts.size() - 1;
    }

    int take() {
        possible(!texts.isEmpty());
        List<Text> order = new ArrayList<>(texts);
        order.sort(Comparator.comparingInt(each -> -each.priority));
        Text first = order.get(0);
        texts.removeIf(each -> each == first);
        return first.words.stream().mapToInt(word -> 1 << word).sum();
    }

    int numbers(int row, int digits) {
        inRange(within(row, 0, 3), within(digits, 0, 9999));
        String text = String.format("%04d", digits);
        inRange(text.matches("[0-4]{4}"));
        for (int column = 0; column < 4; column++) {
            puzzle[4 * row + column] = text.charAt(column) - '0';
        }
        return 0;
    }

    int solutions() {
        return (int) GRIDS.stream().filter(this::agrees).count();
    }

    private boolean agrees(int[] grid) {
        for (int i = 0; i < 16; i++) {
            if (puzzle[i] != 0 && puzzle[i] != grid[i]) {
                return false;
            }
        }
        return true;
    }

    /** All grids that are right: every choice of four of the 24 rows whose columns and quarters are full. */
    private static List<int[]> allGrids() {
        List<int[]> rows = new ArrayList<>();
        for (int digits = 1111; digits <= 4444; digits++) {
            int[] row = Integer.toString(digits).chars().map(each -> each - '0').toArray();
            if (isFull(row)) {
                rows.add(row);
            }
        }
        List<int[]> grids = new ArrayList<>();
        for (int[] a : rows) {
            for (int[] b : rows) {
                for (int[] c : rows) {
                    for (int[] d : rows) {
                        int[] grid = new int[16];
                        System.arraycopy(a, 0, grid, 0, 4);
                        System.arraycopy(b, 0, grid, 4, 4);
                        System.arraycopy(c, 0, grid, 8, 4);
                        System.arraycopy(d, 0, grid, 12, 4);
                        if (isRight(grid)) {
                            grids.add(grid);
                        }
                    }
                }
            }
        }
        return grids;
    }

    private static boolean isFull(int... four) {
        int[] sorted = four.clone();
        Arrays.sort(sorted);
        return Arrays.equals(sorted, new int[] {1, 2, 3, 4});
    }

    private static boolean isRight(int[] g) {
        for (int i = 0; i < 4; i++) {
            if (!isFull(g[i], g[i + 4], g[i + 8], g[i + 12])) {
                return false;
            }
        }
        return isFull(g[0], g[1], g[4], g[5]) && isFull(g[2], g[3], g[6], g[7])
                && isFull(g[8], g[9], g[12], g[13]) && isFull(g[10], g[11], g[14], g[15]);
    }
}
